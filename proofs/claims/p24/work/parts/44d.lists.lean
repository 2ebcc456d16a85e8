/-! lists: add(E) and add(int, E) -/
section LISTD
theorem AddP.up {g : GE} {L : List Nat} {f : Nat → va_E} {h0 : Nat} {mc : Int32} {ea n : Nat} {tg : Nat → Option Nat} {u : PE} {e : va_E} (h : AddP g L (va_up f h0 e) h0 mc ea n tg u) : AddP g L f h0 mc ea n tg u := by
  obtain ⟨ea', cap', rf', h1, h2, h3, h4, h5, h6, h7, h8⟩ := h
  exact ⟨ea', cap', rf', h1, h2, h3, h4, h5, h6, fun b hb n1 n2 => (h7 b hb n1 n2).trans (pu_n n1 rfl), h8⟩
def LsT (g : GE) (L : List Nat) (f : Nat → va_E) (h0 : Nat) (mc : Int32) (ea n cap : Nat) (rf : Nat → Option Nat) : Prop := h0 ∈ L ∧ f h0 = .inr (2, [.int mc, .ref ea, .int (nI n)]) ∧ ((ea = g.2.2 4 ∧ n = 0) ∨ (ea ∈ L ∧ f ea = eO g cap rf ∧ 0 < cap)) ∧ n ≤ cap ∧ cap ≤ 100 ∧ n ≤ 60 ∧ ∀ j, j < n → ∀ y, rf j = some y → okE L f y

set_option maxHeartbeats 4000000 in
set_option maxRecDepth 100000 in
theorem c_addER (l : Launch) (g : GE) (L : List Nat) (f : Nat → va_E)  (h0 ea n : Nat) (mc : Int32) (rf : Nat → Option Nat) (hq0 : h0 ∈ L) (hf0 : f h0 = .inr (2, [.int mc, .ref ea, .int (nI n)])) (hq1 : ea ∈ L) (hf1 : f ea = eO g n rf) (hn : 0 < n ∧ n ≤ 60) (hok : ∀ j, j < n → ∀ y, rf j = some y → okE L f y) (v : Nat) (hvE : okE L f v) : Mi l yJx4a65c_add_9ea2d wsJx4a65c_add_9ea2d (rmH 6 1 200) g L f [.ref h0, .ref v] (fun r u => r = 1 ∧ AddP g L f h0 (mc + 1) ea n (insT rf n v) u) 1 200 := by
  intro sz
  refine Met.ofW (cc := cJx4a65c_add_9ea2d) (maxL := 2) (ret := (some .boolean)) (by decide) rfl ?_
  intro p e s m args below meth c s₁ B hml hv
  obtain ⟨rfl, hv⟩ := hv
  have hx := B.exec
  have hb := B.bytes
  have hr := B.returns
  have hts := atoms_spec (ws := wsJx4a65c_add_9ea2d) B.pre
  have hown : s.vm.findClass RJx4a65c = some m.cls := findClass_of_methodNamed B.named
  have hlocks := B.notSynchronized
  obtain ⟨rfl, hw, hs⟩ := pm_begin hv
  generalize va_A (va_pl L f) s.heap.size = A at hw hs ⊢
  have CF := (⟨hx, hb, hml, hown, hts⟩ : CallFix p m c cJx4a65c_add_9ea2d 2 s _ wsJx4a65c_add_9ea2d RJx4a65c)
  have hin_Jx4a65c : ∀ w ∈ wsJx4a65c0, w ∈ wsJx4a65c_add_9ea2d := by decide +kernel
  have hl := lv_entry ([.ref h0, .ref v]) (n := 2) (Nat.le_of_ble_eq_true rfl)
  rw [lg_entry_eq]
  generalize (lg_sl ([.ref h0, .ref v]) ++ List.replicate (2 - (lg_sl ([.ref h0, .ref v])).length) Slot.unset).toArray = ls at hl ⊢
  have hl : lv_has ls 2 [(0, .ref h0), (1, .ref v)] := hl
  refine lv_aload_n hx hb dJx4a65c_add_9ea2d_0 rfl (lv_at hl 0 rfl) ?_
  refine lv_dup hx hb dJx4a65c_add_9ea2d_1 rfl ?_
  refine pm_get (ci := 2) (v := .int mc) (C := RJx4a65c) (T := TJx4a65c) (N := 3) hx hb hts hin_Jx4a65c hown hw hq0 hf0 rfl 0 (by decide) (hts (.fieldLink RJx4a65c 63 "java/util/ArrayList" "modCount" "I") (by decide +kernel)) (u_same (args := #[]) (va_Nw.use (A := #[]) rfl (hs.2.2.1 (.sameField "java/util/ArrayList" "java/util/AbstractList" "modCount" "I") (by decide +kernel)))) rfl dJx4a65c_add_9ea2d_2 ?_
  refine lv_iconst (v := 1) hx hb dJx4a65c_add_9ea2d_5 (by decide) ?_
  refine lv_iadd hx hb dJx4a65c_add_9ea2d_6 ?_
  refine pm_put (ci := 2) (v := .int (mc + 1)) (ty := .int) (C := RJx4a65c) (T := TJx4a65c) (N := 3) hx hb hts hin_Jx4a65c tyJx4a65c tyJx4a65c_ok nmJx4a65c hown hw hq0 hf0 rfl 0 (by decide) (hts (.fieldLink RJx4a65c 63 "java/util/ArrayList" "modCount" "I") (by decide +kernel)) (u_same (args := #[]) (va_Nw.use (A := #[]) rfl (hs.2.2.1 (.sameField "java/util/ArrayList" "java/util/AbstractList" "modCount" "I") (by decide +kernel)))) rfl (by decide +kernel) rfl rfl (Nat.le_of_ble_eq_true rfl) dJx4a65c_add_9ea2d_7 (fun H locs hw => ?_)
  have hf_1 : (va_up f h0 (.inr (2, [.int (mc + 1), .ref ea, .int (nI n)]))) h0 = .inr (2, [.int (mc + 1), .ref ea, .int (nI n)]) := pu_s
  have hf_2 : (va_up f h0 (.inr (2, [.int (mc + 1), .ref ea, .int (nI n)]))) ea = .inl (g.2.1 2, n, .inr (.inr (.inr (.inr rf)))) := pu_n (pm_ne hf1 hf0 (by simp)) hf1
  have ho_3 := okE.up (e1 := .inr (2, [.int (mc + 1), .ref ea, .int (nI n)])) (hvE) hf0 (by intro i fs hi; rcases hi with rfl | rfl <;> simp)
  have ho_4 := fun (j : Nat) (hj : j < n) (y : Nat) (hy : _ = some y) => okE.up (e1 := .inr (2, [.int (mc + 1), .ref ea, .int (nI n)])) (hok j hj y hy) hf0 (by intro i fs hi; rcases hi with rfl | rfl <;> simp)
  refine lv_aload_n hx hb dJx4a65c_add_9ea2d_10 rfl (lv_at hl 0 rfl) ?_
  refine lv_aload_n hx hb dJx4a65c_add_9ea2d_11 rfl (lv_at hl 1 rfl) ?_
  refine lv_aload_n hx hb dJx4a65c_add_9ea2d_12 rfl (lv_at hl 0 rfl) ?_
  refine pm_get (ci := 2) (v := .ref ea) (C := RJx4a65c) (T := TJx4a65c) (N := 3) hx hb hts hin_Jx4a65c hown hw hq0 hf_1 rfl 1 (by decide) (hts (.fieldLink RJx4a65c 9 "java/util/ArrayList" "elementData" "[Ljava/lang/Object;") (by decide +kernel)) (fun _ h9 => h9) rfl dJx4a65c_add_9ea2d_13 ?_
  refine lv_aload_n hx hb dJx4a65c_add_9ea2d_16 rfl (lv_at hl 0 rfl) ?_
  refine pm_get (ci := 2) (v := .int (nI n)) (C := RJx4a65c) (T := TJx4a65c) (N := 3) hx hb hts hin_Jx4a65c hown hw hq0 hf_1 rfl 2 (by decide) (hts (.fieldLink RJx4a65c 48 "java/util/ArrayList" "size" "I") (by decide +kernel)) (fun _ h9 => h9) rfl dJx4a65c_add_9ea2d_17 ?_
  refine pc_v hw (va_runV (As := [.ref v, .ref ea, .int (nI n)]) (rest := []) CF (c_add3R l g L _ h0 ea n (mc + 1) rf hq0 hf_1 hq1 hf_2 hn ho_4 v ho_3 _) (cwV 3 hts gJx4a65c_add_9ea2d_Jx4a65c_add_72be8 rfl rfl rfl (by decide +kernel) ⟨Nat.le_of_ble_eq_true rfl, Nat.le_of_ble_eq_true rfl⟩) (pm_preV hw hs (pm_recv hw hq0 hf_1 rfl)) rfl rfl hl.1 rfl (lv_room (Nat.le_of_ble_eq_true rfl)) dJx4a65c_add_9ea2d_20 ⟨Nat.le_of_ble_eq_true rfl, Nat.le_of_ble_eq_true rfl⟩) (fun L1 f1 H locs hp hw => ?_)
  refine lv_iconst (v := 1) hx hb dJx4a65c_add_9ea2d_23 (by decide) ?_
  exact pr_i (v := 1) hx hb hr hlocks hw rfl ⟨Nat.le_of_ble_eq_true rfl, Nat.le_of_ble_eq_true rfl⟩ (⟨rfl, hp.up⟩) dJx4a65c_add_9ea2d_24

set_option maxHeartbeats 4000000 in
set_option maxRecDepth 100000 in
theorem c_addEF (l : Launch) (g : GE) (L : List Nat) (f : Nat → va_E)  (h0 : Nat) (mc : Int32) (rf : Nat → Option Nat) (hq0 : h0 ∈ L) (hf0 : f h0 = .inr (2, [.int mc, .ref (g.2.2 4), .int 0])) (v : Nat) (hvE : okE L f v) : Mi l yJx4a65c_add_9ea2d wsJx4a65c_add_9ea2d (rmH 6 1 200) g L f [.ref h0, .ref v] (fun r u => r = 1 ∧ AddP g L f h0 (mc + 1) (g.2.2 4) 0 (insT rf 0 v) u) 1 200 := by
  intro sz
  refine Met.ofW (cc := cJx4a65c_add_9ea2d) (maxL := 2) (ret := (some .boolean)) (by decide) rfl ?_
  intro p e s m args below meth c s₁ B hml hv
  obtain ⟨rfl, hv⟩ := hv
  have hx := B.exec
  have hb := B.bytes
  have hr := B.returns
  have hts := atoms_spec (ws := wsJx4a65c_add_9ea2d) B.pre
  have hown : s.vm.findClass RJx4a65c = some m.cls := findClass_of_methodNamed B.named
  have hlocks := B.notSynchronized
  obtain ⟨rfl, hw, hs⟩ := pm_begin hv
  generalize va_A (va_pl L f) s.heap.size = A at hw hs ⊢
  have CF := (⟨hx, hb, hml, hown, hts⟩ : CallFix p m c cJx4a65c_add_9ea2d 2 s _ wsJx4a65c_add_9ea2d RJx4a65c)
  have hin_Jx4a65c : ∀ w ∈ wsJx4a65c0, w ∈ wsJx4a65c_add_9ea2d := by decide +kernel
  have hl := lv_entry ([.ref h0, .ref v]) (n := 2) (Nat.le_of_ble_eq_true rfl)
  rw [lg_entry_eq]
  generalize (lg_sl ([.ref h0, .ref v]) ++ List.replicate (2 - (lg_sl ([.ref h0, .ref v])).length) Slot.unset).toArray = ls at hl ⊢
  have hl : lv_has ls 2 [(0, .ref h0), (1, .ref v)] := hl
  refine lv_aload_n hx hb dJx4a65c_add_9ea2d_0 rfl (lv_at hl 0 rfl) ?_
  refine lv_dup hx hb dJx4a65c_add_9ea2d_1 rfl ?_
  refine pm_get (ci := 2) (v := .int mc) (C := RJx4a65c) (T := TJx4a65c) (N := 3) hx hb hts hin_Jx4a65c hown hw hq0 hf0 rfl 0 (by decide) (hts (.fieldLink RJx4a65c 63 "java/util/ArrayList" "modCount" "I") (by decide +kernel)) (u_same (args := #[]) (va_Nw.use (A := #[]) rfl (hs.2.2.1 (.sameField "java/util/ArrayList" "java/util/AbstractList" "modCount" "I") (by decide +kernel)))) rfl dJx4a65c_add_9ea2d_2 ?_
  refine lv_iconst (v := 1) hx hb dJx4a65c_add_9ea2d_5 (by decide) ?_
  refine lv_iadd hx hb dJx4a65c_add_9ea2d_6 ?_
  refine pm_put (ci := 2) (v := .int (mc + 1)) (ty := .int) (C := RJx4a65c) (T := TJx4a65c) (N := 3) hx hb hts hin_Jx4a65c tyJx4a65c tyJx4a65c_ok nmJx4a65c hown hw hq0 hf0 rfl 0 (by decide) (hts (.fieldLink RJx4a65c 63 "java/util/ArrayList" "modCount" "I") (by decide +kernel)) (u_same (args := #[]) (va_Nw.use (A := #[]) rfl (hs.2.2.1 (.sameField "java/util/ArrayList" "java/util/AbstractList" "modCount" "I") (by decide +kernel)))) rfl (by decide +kernel) rfl rfl (Nat.le_of_ble_eq_true rfl) dJx4a65c_add_9ea2d_7 (fun H locs hw => ?_)
  have hf_1 : (va_up f h0 (.inr (2, [.int (mc + 1), .ref (g.2.2 4), .int 0]))) h0 = .inr (2, [.int (mc + 1), .ref (g.2.2 4), .int 0]) := pu_s
  have ho_2 := okE.up (e1 := .inr (2, [.int (mc + 1), .ref (g.2.2 4), .int 0])) (hvE) hf0 (by intro i fs hi; rcases hi with rfl | rfl <;> simp)
  refine lv_aload_n hx hb dJx4a65c_add_9ea2d_10 rfl (lv_at hl 0 rfl) ?_
  refine lv_aload_n hx hb dJx4a65c_add_9ea2d_11 rfl (lv_at hl 1 rfl) ?_
  refine lv_aload_n hx hb dJx4a65c_add_9ea2d_12 rfl (lv_at hl 0 rfl) ?_
  refine pm_get (ci := 2) (v := .ref (g.2.2 4)) (C := RJx4a65c) (T := TJx4a65c) (N := 3) hx hb hts hin_Jx4a65c hown hw hq0 hf_1 rfl 1 (by decide) (hts (.fieldLink RJx4a65c 9 "java/util/ArrayList" "elementData" "[Ljava/lang/Object;") (by decide +kernel)) (fun _ h9 => h9) rfl dJx4a65c_add_9ea2d_13 ?_
  refine lv_aload_n hx hb dJx4a65c_add_9ea2d_16 rfl (lv_at hl 0 rfl) ?_
  refine pm_get (ci := 2) (v := .int 0) (C := RJx4a65c) (T := TJx4a65c) (N := 3) hx hb hts hin_Jx4a65c hown hw hq0 hf_1 rfl 2 (by decide) (hts (.fieldLink RJx4a65c 48 "java/util/ArrayList" "size" "I") (by decide +kernel)) (fun _ h9 => h9) rfl dJx4a65c_add_9ea2d_17 ?_
  refine pc_v hw (va_runV (As := [.ref v, .ref (g.2.2 4), .int 0]) (rest := []) CF (c_add3F l g L _ h0 (mc + 1) rf hq0 hf_1 v ho_2 _) (cwV 3 hts gJx4a65c_add_9ea2d_Jx4a65c_add_72be8 rfl rfl rfl (by decide +kernel) ⟨Nat.le_of_ble_eq_true rfl, Nat.le_of_ble_eq_true rfl⟩) (pm_preV hw hs (pm_recv hw hq0 hf_1 rfl)) rfl rfl hl.1 rfl (lv_room (Nat.le_of_ble_eq_true rfl)) dJx4a65c_add_9ea2d_20 ⟨Nat.le_of_ble_eq_true rfl, Nat.le_of_ble_eq_true rfl⟩) (fun L1 f1 H locs hp hw => ?_)
  refine lv_iconst (v := 1) hx hb dJx4a65c_add_9ea2d_23 (by decide) ?_
  exact pr_i (v := 1) hx hb hr hlocks hw rfl ⟨Nat.le_of_ble_eq_true rfl, Nat.le_of_ble_eq_true rfl⟩ (⟨rfl, hp.up⟩) dJx4a65c_add_9ea2d_24

set_option maxHeartbeats 4000000 in
set_option maxRecDepth 100000 in
theorem c_addES (l : Launch) (g : GE) (L : List Nat) (f : Nat → va_E)  (h0 ea n cap : Nat) (mc : Int32) (rf : Nat → Option Nat) (hq0 : h0 ∈ L) (hf0 : f h0 = .inr (2, [.int mc, .ref ea, .int (nI n)])) (hq1 : ea ∈ L) (hf1 : f ea = eO g cap rf) (hn : n < cap ∧ cap ≤ 100) (hok : ∀ j, j < n → ∀ y, rf j = some y → okE L f y) (v : Nat) (hvE : okE L f v) : Mi l yJx4a65c_add_9ea2d wsJx4a65c_add_9ea2d (rmH 6 1 200) g L f [.ref h0, .ref v] (fun r u => r = 1 ∧ AddP g L f h0 (mc + 1) ea n (insT rf n v) u) 1 200 := by
  intro sz
  refine Met.ofW (cc := cJx4a65c_add_9ea2d) (maxL := 2) (ret := (some .boolean)) (by decide) rfl ?_
  intro p e s m args below meth c s₁ B hml hv
  obtain ⟨rfl, hv⟩ := hv
  have hx := B.exec
  have hb := B.bytes
  have hr := B.returns
  have hts := atoms_spec (ws := wsJx4a65c_add_9ea2d) B.pre
  have hown : s.vm.findClass RJx4a65c = some m.cls := findClass_of_methodNamed B.named
  have hlocks := B.notSynchronized
  obtain ⟨rfl, hw, hs⟩ := pm_begin hv
  generalize va_A (va_pl L f) s.heap.size = A at hw hs ⊢
  have CF := (⟨hx, hb, hml, hown, hts⟩ : CallFix p m c cJx4a65c_add_9ea2d 2 s _ wsJx4a65c_add_9ea2d RJx4a65c)
  have hin_Jx4a65c : ∀ w ∈ wsJx4a65c0, w ∈ wsJx4a65c_add_9ea2d := by decide +kernel
  have hl := lv_entry ([.ref h0, .ref v]) (n := 2) (Nat.le_of_ble_eq_true rfl)
  rw [lg_entry_eq]
  generalize (lg_sl ([.ref h0, .ref v]) ++ List.replicate (2 - (lg_sl ([.ref h0, .ref v])).length) Slot.unset).toArray = ls at hl ⊢
  have hl : lv_has ls 2 [(0, .ref h0), (1, .ref v)] := hl
  refine lv_aload_n hx hb dJx4a65c_add_9ea2d_0 rfl (lv_at hl 0 rfl) ?_
  refine lv_dup hx hb dJx4a65c_add_9ea2d_1 rfl ?_
  refine pm_get (ci := 2) (v := .int mc) (C := RJx4a65c) (T := TJx4a65c) (N := 3) hx hb hts hin_Jx4a65c hown hw hq0 hf0 rfl 0 (by decide) (hts (.fieldLink RJx4a65c 63 "java/util/ArrayList" "modCount" "I") (by decide +kernel)) (u_same (args := #[]) (va_Nw.use (A := #[]) rfl (hs.2.2.1 (.sameField "java/util/ArrayList" "java/util/AbstractList" "modCount" "I") (by decide +kernel)))) rfl dJx4a65c_add_9ea2d_2 ?_
  refine lv_iconst (v := 1) hx hb dJx4a65c_add_9ea2d_5 (by decide) ?_
  refine lv_iadd hx hb dJx4a65c_add_9ea2d_6 ?_
  refine pm_put (ci := 2) (v := .int (mc + 1)) (ty := .int) (C := RJx4a65c) (T := TJx4a65c) (N := 3) hx hb hts hin_Jx4a65c tyJx4a65c tyJx4a65c_ok nmJx4a65c hown hw hq0 hf0 rfl 0 (by decide) (hts (.fieldLink RJx4a65c 63 "java/util/ArrayList" "modCount" "I") (by decide +kernel)) (u_same (args := #[]) (va_Nw.use (A := #[]) rfl (hs.2.2.1 (.sameField "java/util/ArrayList" "java/util/AbstractList" "modCount" "I") (by decide +kernel)))) rfl (by decide +kernel) rfl rfl (Nat.le_of_ble_eq_true rfl) dJx4a65c_add_9ea2d_7 (fun H locs hw => ?_)
  have hf_1 : (va_up f h0 (.inr (2, [.int (mc + 1), .ref ea, .int (nI n)]))) h0 = .inr (2, [.int (mc + 1), .ref ea, .int (nI n)]) := pu_s
  have hf_2 : (va_up f h0 (.inr (2, [.int (mc + 1), .ref ea, .int (nI n)]))) ea = .inl (g.2.1 2, cap, .inr (.inr (.inr (.inr rf)))) := pu_n (pm_ne hf1 hf0 (by simp)) hf1
  have ho_3 := okE.up (e1 := .inr (2, [.int (mc + 1), .ref ea, .int (nI n)])) (hvE) hf0 (by intro i fs hi; rcases hi with rfl | rfl <;> simp)
  have ho_4 := fun (j : Nat) (hj : j < n) (y : Nat) (hy : _ = some y) => okE.up (e1 := .inr (2, [.int (mc + 1), .ref ea, .int (nI n)])) (hok j hj y hy) hf0 (by intro i fs hi; rcases hi with rfl | rfl <;> simp)
  refine lv_aload_n hx hb dJx4a65c_add_9ea2d_10 rfl (lv_at hl 0 rfl) ?_
  refine lv_aload_n hx hb dJx4a65c_add_9ea2d_11 rfl (lv_at hl 1 rfl) ?_
  refine lv_aload_n hx hb dJx4a65c_add_9ea2d_12 rfl (lv_at hl 0 rfl) ?_
  refine pm_get (ci := 2) (v := .ref ea) (C := RJx4a65c) (T := TJx4a65c) (N := 3) hx hb hts hin_Jx4a65c hown hw hq0 hf_1 rfl 1 (by decide) (hts (.fieldLink RJx4a65c 9 "java/util/ArrayList" "elementData" "[Ljava/lang/Object;") (by decide +kernel)) (fun _ h9 => h9) rfl dJx4a65c_add_9ea2d_13 ?_
  refine lv_aload_n hx hb dJx4a65c_add_9ea2d_16 rfl (lv_at hl 0 rfl) ?_
  refine pm_get (ci := 2) (v := .int (nI n)) (C := RJx4a65c) (T := TJx4a65c) (N := 3) hx hb hts hin_Jx4a65c hown hw hq0 hf_1 rfl 2 (by decide) (hts (.fieldLink RJx4a65c 48 "java/util/ArrayList" "size" "I") (by decide +kernel)) (fun _ h9 => h9) rfl dJx4a65c_add_9ea2d_17 ?_
  refine pc_v hw (va_runV (As := [.ref v, .ref ea, .int (nI n)]) (rest := []) CF (c_add3S l g L _ h0 ea n cap (mc + 1) rf hq0 hf_1 hq1 hf_2 hn ho_4 v ho_3 _) (cwV 3 hts gJx4a65c_add_9ea2d_Jx4a65c_add_72be8 rfl rfl rfl (by decide +kernel) ⟨Nat.le_of_ble_eq_true rfl, Nat.le_of_ble_eq_true rfl⟩) (pm_preV hw hs (pm_recv hw hq0 hf_1 rfl)) rfl rfl hl.1 rfl (lv_room (Nat.le_of_ble_eq_true rfl)) dJx4a65c_add_9ea2d_20 ⟨Nat.le_of_ble_eq_true rfl, Nat.le_of_ble_eq_true rfl⟩) (fun L1 f1 H locs hp hw => ?_)
  refine lv_iconst (v := 1) hx hb dJx4a65c_add_9ea2d_23 (by decide) ?_
  exact pr_i (v := 1) hx hb hr hlocks hw rfl ⟨Nat.le_of_ble_eq_true rfl, Nat.le_of_ble_eq_true rfl⟩ (⟨rfl, hp.up⟩) dJx4a65c_add_9ea2d_24

/-- List.add(e), whatever the list's row is -/
theorem c_addE (l : Launch) (g : GE) (L : List Nat) (f : Nat → va_E) (h0 ea n cap : Nat) (mc : Int32) (rf : Nat → Option Nat) (hLS : LsT g L f h0 mc ea n cap rf) (v : Nat) (hvE : okE L f v) : Mi l yJx4a65c_add_9ea2d wsJx4a65c_add_9ea2d (rmH 6 1 200) g L f [.ref h0, .ref v] (fun r u => r = 1 ∧ AddP g L f h0 (mc + 1) ea n (insT rf n v) u) 1 200 := by
  obtain ⟨hq0, hf0, hc, h1, h2, h3, hok⟩ := hLS
  rcases hc with ⟨rfl, rfl⟩ | ⟨hq1, hf1, hz0⟩
  · exact c_addEF l g L f h0 mc rf hq0 hf0 v hvE
  · rcases Nat.lt_or_eq_of_le h1 with h | h
    · exact c_addES l g L f h0 ea n cap mc rf hq0 hf0 hq1 hf1 ⟨h, h2⟩ hok v hvE
    · subst h
      by_cases hz : 0 < n
      · exact c_addER l g L f h0 ea n mc rf hq0 hf0 hq1 hf1 ⟨hz, h3⟩ hok v hvE
      · exact absurd hz0 hz

set_option maxHeartbeats 4000000 in
set_option maxRecDepth 100000 in
theorem c_rangeCheck (l : Launch) (g : GE) (L : List Nat) (f : Nat → va_E)  (h0 ea n : Nat) (mc : Int32) (hq0 : h0 ∈ L) (hf0 : f h0 = .inr (2, [.int mc, .ref ea, .int (nI n)])) (z : Nat) (hp0 : z ≤ n) (hn : n < 2 ^ 31) : Mv l yJx4a65c_rangeCheckForAdd_d00df wsJx4a65c_rangeCheckForAdd_d00df (rmH 0 0 0) g L f [.ref h0, .int (nI z)] (fun u => u = (L, f)) 0 0 := by
  intro sz
  refine Met.ofW (cc := cJx4a65c_rangeCheckForAdd_d00df) (maxL := 2) (ret := none) (by decide) rfl ?_
  intro p e s m args below meth c s₁ B hml hv
  obtain ⟨rfl, hv⟩ := hv
  have hx := B.exec
  have hb := B.bytes
  have hr := B.returns
  have hts := atoms_spec (ws := wsJx4a65c_rangeCheckForAdd_d00df) B.pre
  have hown : s.vm.findClass RJx4a65c = some m.cls := findClass_of_methodNamed B.named
  have hlocks := B.notSynchronized
  obtain ⟨rfl, hw, hs⟩ := pm_begin hv
  generalize va_A (va_pl L f) s.heap.size = A at hw hs ⊢
  have CF := (⟨hx, hb, hml, hown, hts⟩ : CallFix p m c cJx4a65c_rangeCheckForAdd_d00df 2 s _ wsJx4a65c_rangeCheckForAdd_d00df RJx4a65c)
  have hin_Jx4a65c : ∀ w ∈ wsJx4a65c0, w ∈ wsJx4a65c_rangeCheckForAdd_d00df := by decide +kernel
  have hl := lv_entry ([.ref h0, .int (nI z)]) (n := 2) (Nat.le_of_ble_eq_true rfl)
  rw [lg_entry_eq]
  generalize (lg_sl ([.ref h0, .int (nI z)]) ++ List.replicate (2 - (lg_sl ([.ref h0, .int (nI z)])).length) Slot.unset).toArray = ls at hl ⊢
  have hl : lv_has ls 2 [(0, .ref h0), (1, .int (nI z))] := hl
  refine lv_iload_n hx hb dJx4a65c_rangeCheckForAdd_d00df_0 rfl (lv_at hl 1 rfl) ?_
  refine lv_aload_n hx hb dJx4a65c_rangeCheckForAdd_d00df_1 rfl (lv_at hl 0 rfl) ?_
  refine pm_get (ci := 2) (v := .int (nI n)) (C := RJx4a65c) (T := TJx4a65c) (N := 3) hx hb hts hin_Jx4a65c hown hw hq0 hf0 rfl 2 (by decide) (hts (.fieldLink RJx4a65c 48 "java/util/ArrayList" "size" "I") (by decide +kernel)) (fun _ h9 => h9) rfl dJx4a65c_rangeCheckForAdd_d00df_2 ?_
  refine lv_icmp_gt (tgt := 12) hx hb dJx4a65c_rangeCheckForAdd_d00df_5 (by decide) (fun c_5 => ?_) (fun c_5 => ?_)
  · exact absurd (nI_le hp0 hn) (fun q9 => by rw [nI_leI (by omega) hn] at q9; rw [nI_ltI hn (by omega)] at c_5; omega)
  · refine lv_iload_n hx hb dJx4a65c_rangeCheckForAdd_d00df_8 rfl (lv_at hl 1 rfl) ?_
    refine lv_if_ge (tgt := 25) hx hb dJx4a65c_rangeCheckForAdd_d00df_9 (by decide) (fun c_9 => ?_) (fun c_9 => ?_)
    · exact pr_v hx hb hr hlocks hw ⟨Nat.le_of_ble_eq_true rfl, Nat.le_of_ble_eq_true rfl⟩ (rfl) dJx4a65c_rangeCheckForAdd_d00df_25
    · exact absurd (nI_pos' (by omega)) c_9

set_option maxHeartbeats 4000000 in
set_option maxRecDepth 100000 in
theorem c_addAtR (l : Launch) (g : GE) (L : List Nat) (f : Nat → va_E)  (h0 ea n : Nat) (mc : Int32) (rf : Nat → Option Nat) (hq0 : h0 ∈ L) (hf0 : f h0 = .inr (2, [.int mc, .ref ea, .int (nI n)])) (hq1 : ea ∈ L) (hf1 : f ea = eO g n rf) (hn : 0 < n ∧ n ≤ 60) (hok : ∀ j, j < n → ∀ y, rf j = some y → okE L f y) (v : Nat) (hvE : okE L f v) (z : Nat) (hp0 : z ≤ n) : Mv l yJx4a65c_add_7a177 wsJx4a65c_add_7a177 (rmH 5 1 200) g L f [.ref h0, .int (nI z), .ref v] (fun u => AddP g L f h0 (mc + 1) ea n (insT rf z v) u) 1 200 := by
  intro sz
  refine Met.ofW (cc := cJx4a65c_add_7a177) (maxL := 5) (ret := none) (by decide) rfl ?_
  intro p e s m args below meth c s₁ B hml hv
  obtain ⟨rfl, hv⟩ := hv
  have hx := B.exec
  have hb := B.bytes
  have hr := B.returns
  have hts := atoms_spec (ws := wsJx4a65c_add_7a177) B.pre
  have hown : s.vm.findClass RJx4a65c = some m.cls := findClass_of_methodNamed B.named
  have hlocks := B.notSynchronized
  obtain ⟨rfl, hw, hs⟩ := pm_begin hv
  generalize va_A (va_pl L f) s.heap.size = A at hw hs ⊢
  have CF := (⟨hx, hb, hml, hown, hts⟩ : CallFix p m c cJx4a65c_add_7a177 5 s _ wsJx4a65c_add_7a177 RJx4a65c)
  have hin_Jx4a65c : ∀ w ∈ wsJx4a65c0, w ∈ wsJx4a65c_add_7a177 := by decide +kernel
  have hl := lv_entry ([.ref h0, .int (nI z), .ref v]) (n := 5) (Nat.le_of_ble_eq_true rfl)
  rw [lg_entry_eq]
  generalize (lg_sl ([.ref h0, .int (nI z), .ref v]) ++ List.replicate (5 - (lg_sl ([.ref h0, .int (nI z), .ref v])).length) Slot.unset).toArray = ls at hl ⊢
  have hl : lv_has ls 5 [(0, .ref h0), (1, .int (nI z)), (2, .ref v)] := hl
  refine lv_aload_n hx hb dJx4a65c_add_7a177_0 rfl (lv_at hl 0 rfl) ?_
  refine lv_iload_n hx hb dJx4a65c_add_7a177_1 rfl (lv_at hl 1 rfl) ?_
  refine pc_v hw (va_runV (As := [.int (nI z)]) (rest := []) CF (c_rangeCheck l g L _ h0 ea n mc hq0 hf0 z hp0 (by omega) _) (cwV 1 hts gJx4a65c_add_7a177_Jx4a65c_rangeCheckForAdd_d00df rfl rfl rfl (by decide +kernel) ⟨Nat.le_of_ble_eq_true rfl, Nat.le_of_ble_eq_true rfl⟩) (pm_preV hw hs (pm_recv hw hq0 hf0 rfl)) rfl rfl hl.1 rfl (lv_room (Nat.le_of_ble_eq_true rfl)) dJx4a65c_add_7a177_2 ⟨Nat.le_of_ble_eq_true rfl, Nat.le_of_ble_eq_true rfl⟩) (fun L1 f1 H locs hp hw => ?_)
  obtain rfl : _ = L1 := (congrArg Prod.fst hp).symm
  obtain rfl : _ = f1 := (congrArg Prod.snd hp).symm
  refine lv_aload_n hx hb dJx4a65c_add_7a177_5 rfl (lv_at hl 0 rfl) ?_
  refine lv_dup hx hb dJx4a65c_add_7a177_6 rfl ?_
  refine pm_get (ci := 2) (v := .int mc) (C := RJx4a65c) (T := TJx4a65c) (N := 3) hx hb hts hin_Jx4a65c hown hw hq0 hf0 rfl 0 (by decide) (hts (.fieldLink RJx4a65c 63 "java/util/ArrayList" "modCount" "I") (by decide +kernel)) (u_same (args := #[]) (va_Nw.use (A := #[]) rfl (hs.2.2.1 (.sameField "java/util/ArrayList" "java/util/AbstractList" "modCount" "I") (by decide +kernel)))) rfl dJx4a65c_add_7a177_7 ?_
  refine lv_iconst (v := 1) hx hb dJx4a65c_add_7a177_10 (by decide) ?_
  refine lv_iadd hx hb dJx4a65c_add_7a177_11 ?_
  refine pm_put (ci := 2) (v := .int (mc + 1)) (ty := .int) (C := RJx4a65c) (T := TJx4a65c) (N := 3) hx hb hts hin_Jx4a65c tyJx4a65c tyJx4a65c_ok nmJx4a65c hown hw hq0 hf0 rfl 0 (by decide) (hts (.fieldLink RJx4a65c 63 "java/util/ArrayList" "modCount" "I") (by decide +kernel)) (u_same (args := #[]) (va_Nw.use (A := #[]) rfl (hs.2.2.1 (.sameField "java/util/ArrayList" "java/util/AbstractList" "modCount" "I") (by decide +kernel)))) rfl (by decide +kernel) rfl rfl (Nat.le_of_ble_eq_true rfl) dJx4a65c_add_7a177_12 (fun H locs hw => ?_)
  have hf_1 : (va_up f h0 (.inr (2, [.int (mc + 1), .ref ea, .int (nI n)]))) h0 = .inr (2, [.int (mc + 1), .ref ea, .int (nI n)]) := pu_s
  have hf_2 : (va_up f h0 (.inr (2, [.int (mc + 1), .ref ea, .int (nI n)]))) ea = .inl (g.2.1 2, n, .inr (.inr (.inr (.inr rf)))) := pu_n (pm_ne hf1 hf0 (by simp)) hf1
  have ho_3 := okE.up (e1 := .inr (2, [.int (mc + 1), .ref ea, .int (nI n)])) (hvE) hf0 (by intro i fs hi; rcases hi with rfl | rfl <;> simp)
  have ho_4 := fun (j : Nat) (hj : j < n) (y : Nat) (hy : _ = some y) => okE.up (e1 := .inr (2, [.int (mc + 1), .ref ea, .int (nI n)])) (hok j hj y hy) hf0 (by intro i fs hi; rcases hi with rfl | rfl <;> simp)
  refine lv_aload_n hx hb dJx4a65c_add_7a177_15 rfl (lv_at hl 0 rfl) ?_
  refine pm_get (ci := 2) (v := .int (nI n)) (C := RJx4a65c) (T := TJx4a65c) (N := 3) hx hb hts hin_Jx4a65c hown hw hq0 hf_1 rfl 2 (by decide) (hts (.fieldLink RJx4a65c 48 "java/util/ArrayList" "size" "I") (by decide +kernel)) (fun _ h9 => h9) rfl dJx4a65c_add_7a177_16 ?_
  refine lv_dup hx hb dJx4a65c_add_7a177_19 rfl ?_
  refine lv_istore_n (lv' := [(3, .int (nI n)), (0, .ref h0), (1, .int (nI z)), (2, .ref v)]) hx hb dJx4a65c_add_7a177_20 rfl hl (by decide) rfl (fun ls hl => ?_)
  refine lv_aload_n hx hb dJx4a65c_add_7a177_21 rfl (lv_at hl 1 rfl) ?_
  refine pm_get (ci := 2) (v := .ref ea) (C := RJx4a65c) (T := TJx4a65c) (N := 3) hx hb hts hin_Jx4a65c hown hw hq0 hf_1 rfl 1 (by decide) (hts (.fieldLink RJx4a65c 9 "java/util/ArrayList" "elementData" "[Ljava/lang/Object;") (by decide +kernel)) (fun _ h9 => h9) rfl dJx4a65c_add_7a177_22 ?_
  refine lv_dup hx hb dJx4a65c_add_7a177_25 rfl ?_
  refine lv_astore (lv' := [(4, .ref ea), (3, .int (nI n)), (0, .ref h0), (1, .int (nI z)), (2, .ref v)]) hx hb dJx4a65c_add_7a177_26 hl (by decide) rfl (fun ls hl => ?_)
  refine pm_ilen (v := (Int32.ofNat n)) hx hb hw 2 hq1 hf_2 rfl rfl dJx4a65c_add_7a177_28 ?_
  refine lv_icmp_ne (tgt := 38) hx hb dJx4a65c_add_7a177_29 (by decide) (fun c_29 => ?_) (fun c_29 => ?_)
  · exact absurd rfl c_29
  · refine lv_aload_n hx hb dJx4a65c_add_7a177_32 rfl (lv_at hl 2 rfl) ?_
    refine pc_q hw (va_runV (As := []) (rest := []) CF (c_grow0R l g L _ h0 ea n (mc + 1) rf hq0 hf_1 hq1 hf_2 hn ho_4 _) (cwV 0 hts gJx4a65c_add_7a177_Jx4a65c_grow_d5877 rfl rfl rfl (by decide +kernel) ⟨Nat.le_of_ble_eq_true rfl, Nat.le_of_ble_eq_true rfl⟩) (pm_preV hw hs (pm_recv hw hq0 hf_1 rfl)) rfl rfl hl.1 rfl (lv_room (Nat.le_of_ble_eq_true rfl)) dJx4a65c_add_7a177_33 ⟨Nat.le_of_ble_eq_true rfl, Nat.le_of_ble_eq_true rfl⟩) (fun r L1 f1 H locs hp hw => ?_)
    obtain ⟨q, cap9, rf9, rfl, hqn, hc9, hr9, hu⟩ := hp
    obtain rfl : _ = L1 := (congrArg Prod.fst hu).symm
    obtain rfl : _ = f1 := (congrArg Prod.snd hu).symm
    have hne9 : q ≠ h0 := fun e9 => hqn (e9 ▸ hq0)
    have hf_h : (va_up (va_up (va_up f h0 (.inr (2, [.int (mc + 1), .ref ea, .int (nI n)]))) q (eO g cap9 rf9)) h0 (.inr (2, [.int (mc + 1), .ref q, .int (nI n)]))) h0 = .inr (2, [.int (mc + 1), .ref q, .int (nI n)]) := pu_s
    have hq_h : h0 ∈ L ++ [q] := List.mem_append_left _ hq0
    have hf_q : (va_up (va_up (va_up f h0 (.inr (2, [.int (mc + 1), .ref ea, .int (nI n)]))) q (eO g cap9 rf9)) h0 (.inr (2, [.int (mc + 1), .ref q, .int (nI n)]))) q = eO g cap9 rf9 := pu_n hne9 pu_s
    have hq_q : q ∈ L ++ [q] := List.mem_append_right _ (List.mem_singleton.mpr rfl)
    have ho_v := okE.up (e1 := .inr (2, [.int (mc + 1), .ref q, .int (nI n)])) (okE.more (e1 := eO g cap9 rf9) (ho_3) hqn) (pu_n (fun e9 => hqn (e9 ▸ hq0)) hf_1) (by intro i fs hi; rcases hi with rfl | rfl <;> simp)
    have ho_all := fun (j : Nat) (hj : j < n) (y : Nat) (hy : _ = some y) => okE.up (e1 := .inr (2, [.int (mc + 1), .ref q, .int (nI n)])) (okE.more (e1 := eO g cap9 rf9) (ho_4 j hj y hy) hqn) (pu_n (fun e9 => hqn (e9 ▸ hq0)) hf_1) (by intro i fs hi; rcases hi with rfl | rfl <;> simp)
    refine lv_astore (lv' := [(4, .ref q), (3, .int (nI n)), (0, .ref h0), (1, .int (nI z)), (2, .ref v)]) hx hb dJx4a65c_add_7a177_36 hl (by decide) rfl (fun ls hl => ?_)
    refine lv_aload hx hb dJx4a65c_add_7a177_38 (lv_at hl 0 rfl) ?_
    refine lv_iload_n hx hb dJx4a65c_add_7a177_40 rfl (lv_at hl 3 rfl) ?_
    refine lv_aload hx hb dJx4a65c_add_7a177_41 (lv_at hl 0 rfl) ?_
    refine lv_iload_n hx hb dJx4a65c_add_7a177_43 rfl (lv_at hl 3 rfl) ?_
    refine lv_iconst (v := 1) hx hb dJx4a65c_add_7a177_44 (by decide) ?_
    refine lv_iadd hx hb dJx4a65c_add_7a177_45 ?_
    refine lv_iload_n hx hb dJx4a65c_add_7a177_46 rfl (lv_at hl 1 rfl) ?_
    refine lv_iload_n hx hb dJx4a65c_add_7a177_47 rfl (lv_at hl 3 rfl) ?_
    refine lv_isub hx hb dJx4a65c_add_7a177_48 ?_
    refine pm_copy (spn := z) (dpn := z + 1) (nn := n - z) (r0 := rf9) (r1 := rf9) hx hb (hml.trans hl.1.symm) hown (hts (.methodLink RJx4a65c 112 arraycopyName) (by decide +kernel)) (hts (.native arraycopyName) (by decide +kernel)) (hts (.static arraycopyName) (by decide +kernel)) (hts (.initialized "java/lang/System") (by decide +kernel)) hw hs.2 hq_q hf_q hq_q hf_q rfl (nI_1 _) (pk_sub (by omega)) ⟨by omega, by omega, by omega, by omega⟩ (fun i hi y hy => ho_all (z + i) (by omega) y (by rw [← hr9 (z + i) (by omega)]; exact hy)) (Nat.le_of_ble_eq_true rfl) (by decide) dJx4a65c_add_7a177_49 (fun H locs hw => ?_)
    have hf_5 : (va_up (va_up (va_up (va_up f h0 (.inr (2, [.int (mc + 1), .ref ea, .int (nI n)]))) q (eO g cap9 rf9)) h0 (.inr (2, [.int (mc + 1), .ref q, .int (nI n)]))) q (.inl (g.2.1 2, cap9, .inr (.inr (.inr (.inr (va_cpy rf9 rf9 z (z + 1) (n - z)))))))) q = .inl (g.2.1 2, cap9, .inr (.inr (.inr (.inr (va_cpy rf9 rf9 z (z + 1) (n - z)))))) := pu_s
    have hf_6 : (va_up (va_up (va_up (va_up f h0 (.inr (2, [.int (mc + 1), .ref ea, .int (nI n)]))) q (eO g cap9 rf9)) h0 (.inr (2, [.int (mc + 1), .ref q, .int (nI n)]))) q (.inl (g.2.1 2, cap9, .inr (.inr (.inr (.inr (va_cpy rf9 rf9 z (z + 1) (n - z)))))))) h0 = .inr (2, [.int (mc + 1), .ref q, .int (nI n)]) := pu_n (pm_ne hf_h hf_q (by simp)) hf_h
    have ho_7 := okE.up (e1 := .inl (g.2.1 2, cap9, .inr (.inr (.inr (.inr (va_cpy rf9 rf9 z (z + 1) (n - z))))))) (ho_v) hf_q (by intro i fs hi; rcases hi with rfl | rfl <;> simp)
    have ho_8 := fun (j : Nat) (hj : j < n) (y : Nat) (hy : _ = some y) => okE.up (e1 := .inl (g.2.1 2, cap9, .inr (.inr (.inr (.inr (va_cpy rf9 rf9 z (z + 1) (n - z))))))) (ho_all j hj y hy) hf_q (by intro i fs hi; rcases hi with rfl | rfl <;> simp)
    refine lv_aload hx hb dJx4a65c_add_7a177_52 (lv_at hl 0 rfl) ?_
    refine lv_iload_n hx hb dJx4a65c_add_7a177_54 rfl (lv_at hl 3 rfl) ?_
    refine lv_aload_n hx hb dJx4a65c_add_7a177_55 rfl (lv_at hl 4 rfl) ?_
    refine pm_aast (n := cap9) (r := (va_cpy rf9 rf9 z (z + 1) (n - z))) hx hb hw hs.2 hq_q hf_5 (ho_7) (j := z) (nI_clamp (by omega)) (vp_in_nI (by omega) (by omega)) dJx4a65c_add_7a177_56 (fun H locs hw => ?_)
    have hf_9 : (va_up (va_up (va_up (va_up (va_up f h0 (.inr (2, [.int (mc + 1), .ref ea, .int (nI n)]))) q (eO g cap9 rf9)) h0 (.inr (2, [.int (mc + 1), .ref q, .int (nI n)]))) q (.inl (g.2.1 2, cap9, .inr (.inr (.inr (.inr (va_cpy rf9 rf9 z (z + 1) (n - z)))))))) q (.inl (g.2.1 2, cap9, .inr (.inr (.inr (.inr (va_up (va_cpy rf9 rf9 z (z + 1) (n - z)) z (some v)))))))) q = .inl (g.2.1 2, cap9, .inr (.inr (.inr (.inr (va_up (va_cpy rf9 rf9 z (z + 1) (n - z)) z (some v)))))) := pu_s
    have hf_10 : (va_up (va_up (va_up (va_up (va_up f h0 (.inr (2, [.int (mc + 1), .ref ea, .int (nI n)]))) q (eO g cap9 rf9)) h0 (.inr (2, [.int (mc + 1), .ref q, .int (nI n)]))) q (.inl (g.2.1 2, cap9, .inr (.inr (.inr (.inr (va_cpy rf9 rf9 z (z + 1) (n - z)))))))) q (.inl (g.2.1 2, cap9, .inr (.inr (.inr (.inr (va_up (va_cpy rf9 rf9 z (z + 1) (n - z)) z (some v)))))))) h0 = .inr (2, [.int (mc + 1), .ref q, .int (nI n)]) := pu_n (pm_ne hf_6 hf_5 (by simp)) hf_6
    have ho_11 := okE.up (e1 := .inl (g.2.1 2, cap9, .inr (.inr (.inr (.inr (va_up (va_cpy rf9 rf9 z (z + 1) (n - z)) z (some v))))))) (ho_7) hf_5 (by intro i fs hi; rcases hi with rfl | rfl <;> simp)
    have ho_12 := fun (j : Nat) (hj : j < n) (y : Nat) (hy : _ = some y) => okE.up (e1 := .inl (g.2.1 2, cap9, .inr (.inr (.inr (.inr (va_up (va_cpy rf9 rf9 z (z + 1) (n - z)) z (some v))))))) (ho_8 j hj y hy) hf_5 (by intro i fs hi; rcases hi with rfl | rfl <;> simp)
    refine lv_aload_n hx hb dJx4a65c_add_7a177_57 rfl (lv_at hl 2 rfl) ?_
    refine lv_iload_n hx hb dJx4a65c_add_7a177_58 rfl (lv_at hl 1 rfl) ?_
    refine lv_iconst (v := 1) hx hb dJx4a65c_add_7a177_59 (by decide) ?_
    refine lv_iadd hx hb dJx4a65c_add_7a177_60 ?_
    refine pm_put (ci := 2) (v := .int ((nI n) + 1)) (ty := .int) (C := RJx4a65c) (T := TJx4a65c) (N := 3) hx hb hts hin_Jx4a65c tyJx4a65c tyJx4a65c_ok nmJx4a65c hown hw hq_h hf_10 rfl 2 (by decide) (hts (.fieldLink RJx4a65c 48 "java/util/ArrayList" "size" "I") (by decide +kernel)) (fun _ h9 => h9) rfl (by decide +kernel) rfl rfl (Nat.le_of_ble_eq_true rfl) dJx4a65c_add_7a177_61 (fun H locs hw => ?_)
    have hf_13 : (va_up (va_up (va_up (va_up (va_up (va_up f h0 (.inr (2, [.int (mc + 1), .ref ea, .int (nI n)]))) q (eO g cap9 rf9)) h0 (.inr (2, [.int (mc + 1), .ref q, .int (nI n)]))) q (.inl (g.2.1 2, cap9, .inr (.inr (.inr (.inr (va_cpy rf9 rf9 z (z + 1) (n - z)))))))) q (.inl (g.2.1 2, cap9, .inr (.inr (.inr (.inr (va_up (va_cpy rf9 rf9 z (z + 1) (n - z)) z (some v)))))))) h0 (.inr (2, [.int (mc + 1), .ref q, .int ((nI n) + 1)]))) h0 = .inr (2, [.int (mc + 1), .ref q, .int ((nI n) + 1)]) := pu_s
    have hf_14 : (va_up (va_up (va_up (va_up (va_up (va_up f h0 (.inr (2, [.int (mc + 1), .ref ea, .int (nI n)]))) q (eO g cap9 rf9)) h0 (.inr (2, [.int (mc + 1), .ref q, .int (nI n)]))) q (.inl (g.2.1 2, cap9, .inr (.inr (.inr (.inr (va_cpy rf9 rf9 z (z + 1) (n - z)))))))) q (.inl (g.2.1 2, cap9, .inr (.inr (.inr (.inr (va_up (va_cpy rf9 rf9 z (z + 1) (n - z)) z (some v)))))))) h0 (.inr (2, [.int (mc + 1), .ref q, .int ((nI n) + 1)]))) q = .inl (g.2.1 2, cap9, .inr (.inr (.inr (.inr (va_up (va_cpy rf9 rf9 z (z + 1) (n - z)) z (some v)))))) := pu_n (pm_ne hf_9 hf_10 (by simp)) hf_9
    have ho_15 := okE.up (e1 := .inr (2, [.int (mc + 1), .ref q, .int ((nI n) + 1)])) (ho_11) hf_10 (by intro i fs hi; rcases hi with rfl | rfl <;> simp)
    have ho_16 := fun (j : Nat) (hj : j < n) (y : Nat) (hy : _ = some y) => okE.up (e1 := .inr (2, [.int (mc + 1), .ref q, .int ((nI n) + 1)])) (ho_12 j hj y hy) hf_10 (by intro i fs hi; rcases hi with rfl | rfl <;> simp)
    rw [nI_1] at hw
    exact pr_v hx hb hr hlocks hw ⟨Nat.le_of_ble_eq_true rfl, Nat.le_of_ble_eq_true rfl⟩ (⟨q, cap9, _, fun b hb => List.mem_append_left _ hb, pu_s, List.mem_append_right _ (List.mem_singleton.mpr rfl), pu_n hne9 pu_s, hc9, insT_cpy (hp0) hr9, fun b hb h1 h2 => pu_n h1 (pu_n h2 (pu_n h2 (pu_n h1 (pu_n (fun e9 => hqn (e9 ▸ hb)) (pu_n h1 rfl))))), Or.inr hqn⟩) dJx4a65c_add_7a177_64

set_option maxHeartbeats 4000000 in
set_option maxRecDepth 100000 in
theorem c_addAtS (l : Launch) (g : GE) (L : List Nat) (f : Nat → va_E)  (h0 ea n cap : Nat) (mc : Int32) (rf : Nat → Option Nat) (hq0 : h0 ∈ L) (hf0 : f h0 = .inr (2, [.int mc, .ref ea, .int (nI n)])) (hq1 : ea ∈ L) (hf1 : f ea = eO g cap rf) (hn : n < cap ∧ cap ≤ 100) (hok : ∀ j, j < n → ∀ y, rf j = some y → okE L f y) (v : Nat) (hvE : okE L f v) (z : Nat) (hp0 : z ≤ n) : Mv l yJx4a65c_add_7a177 wsJx4a65c_add_7a177 (rmH 5 1 200) g L f [.ref h0, .int (nI z), .ref v] (fun u => AddP g L f h0 (mc + 1) ea n (insT rf z v) u) 1 200 := by
  intro sz
  refine Met.ofW (cc := cJx4a65c_add_7a177) (maxL := 5) (ret := none) (by decide) rfl ?_
  intro p e s m args below meth c s₁ B hml hv
  obtain ⟨rfl, hv⟩ := hv
  have hx := B.exec
  have hb := B.bytes
  have hr := B.returns
  have hts := atoms_spec (ws := wsJx4a65c_add_7a177) B.pre
  have hown : s.vm.findClass RJx4a65c = some m.cls := findClass_of_methodNamed B.named
  have hlocks := B.notSynchronized
  obtain ⟨rfl, hw, hs⟩ := pm_begin hv
  generalize va_A (va_pl L f) s.heap.size = A at hw hs ⊢
  have CF := (⟨hx, hb, hml, hown, hts⟩ : CallFix p m c cJx4a65c_add_7a177 5 s _ wsJx4a65c_add_7a177 RJx4a65c)
  have hin_Jx4a65c : ∀ w ∈ wsJx4a65c0, w ∈ wsJx4a65c_add_7a177 := by decide +kernel
  have hl := lv_entry ([.ref h0, .int (nI z), .ref v]) (n := 5) (Nat.le_of_ble_eq_true rfl)
  rw [lg_entry_eq]
  generalize (lg_sl ([.ref h0, .int (nI z), .ref v]) ++ List.replicate (5 - (lg_sl ([.ref h0, .int (nI z), .ref v])).length) Slot.unset).toArray = ls at hl ⊢
  have hl : lv_has ls 5 [(0, .ref h0), (1, .int (nI z)), (2, .ref v)] := hl
  have hne8 : ea ≠ h0 := pm_ne hf1 hf0 (by simp)
  refine lv_aload_n hx hb dJx4a65c_add_7a177_0 rfl (lv_at hl 0 rfl) ?_
  refine lv_iload_n hx hb dJx4a65c_add_7a177_1 rfl (lv_at hl 1 rfl) ?_
  refine pc_v hw (va_runV (As := [.int (nI z)]) (rest := []) CF (c_rangeCheck l g L _ h0 ea n mc hq0 hf0 z hp0 (by omega) _) (cwV 1 hts gJx4a65c_add_7a177_Jx4a65c_rangeCheckForAdd_d00df rfl rfl rfl (by decide +kernel) ⟨Nat.le_of_ble_eq_true rfl, Nat.le_of_ble_eq_true rfl⟩) (pm_preV hw hs (pm_recv hw hq0 hf0 rfl)) rfl rfl hl.1 rfl (lv_room (Nat.le_of_ble_eq_true rfl)) dJx4a65c_add_7a177_2 ⟨Nat.le_of_ble_eq_true rfl, Nat.le_of_ble_eq_true rfl⟩) (fun L1 f1 H locs hp hw => ?_)
  obtain rfl : _ = L1 := (congrArg Prod.fst hp).symm
  obtain rfl : _ = f1 := (congrArg Prod.snd hp).symm
  refine lv_aload_n hx hb dJx4a65c_add_7a177_5 rfl (lv_at hl 0 rfl) ?_
  refine lv_dup hx hb dJx4a65c_add_7a177_6 rfl ?_
  refine pm_get (ci := 2) (v := .int mc) (C := RJx4a65c) (T := TJx4a65c) (N := 3) hx hb hts hin_Jx4a65c hown hw hq0 hf0 rfl 0 (by decide) (hts (.fieldLink RJx4a65c 63 "java/util/ArrayList" "modCount" "I") (by decide +kernel)) (u_same (args := #[]) (va_Nw.use (A := #[]) rfl (hs.2.2.1 (.sameField "java/util/ArrayList" "java/util/AbstractList" "modCount" "I") (by decide +kernel)))) rfl dJx4a65c_add_7a177_7 ?_
  refine lv_iconst (v := 1) hx hb dJx4a65c_add_7a177_10 (by decide) ?_
  refine lv_iadd hx hb dJx4a65c_add_7a177_11 ?_
  refine pm_put (ci := 2) (v := .int (mc + 1)) (ty := .int) (C := RJx4a65c) (T := TJx4a65c) (N := 3) hx hb hts hin_Jx4a65c tyJx4a65c tyJx4a65c_ok nmJx4a65c hown hw hq0 hf0 rfl 0 (by decide) (hts (.fieldLink RJx4a65c 63 "java/util/ArrayList" "modCount" "I") (by decide +kernel)) (u_same (args := #[]) (va_Nw.use (A := #[]) rfl (hs.2.2.1 (.sameField "java/util/ArrayList" "java/util/AbstractList" "modCount" "I") (by decide +kernel)))) rfl (by decide +kernel) rfl rfl (Nat.le_of_ble_eq_true rfl) dJx4a65c_add_7a177_12 (fun H locs hw => ?_)
  have hf_1 : (va_up f h0 (.inr (2, [.int (mc + 1), .ref ea, .int (nI n)]))) h0 = .inr (2, [.int (mc + 1), .ref ea, .int (nI n)]) := pu_s
  have hf_2 : (va_up f h0 (.inr (2, [.int (mc + 1), .ref ea, .int (nI n)]))) ea = .inl (g.2.1 2, cap, .inr (.inr (.inr (.inr rf)))) := pu_n (pm_ne hf1 hf0 (by simp)) hf1
  have ho_3 := okE.up (e1 := .inr (2, [.int (mc + 1), .ref ea, .int (nI n)])) (hvE) hf0 (by intro i fs hi; rcases hi with rfl | rfl <;> simp)
  have ho_4 := fun (j : Nat) (hj : j < n) (y : Nat) (hy : _ = some y) => okE.up (e1 := .inr (2, [.int (mc + 1), .ref ea, .int (nI n)])) (hok j hj y hy) hf0 (by intro i fs hi; rcases hi with rfl | rfl <;> simp)
  refine lv_aload_n hx hb dJx4a65c_add_7a177_15 rfl (lv_at hl 0 rfl) ?_
  refine pm_get (ci := 2) (v := .int (nI n)) (C := RJx4a65c) (T := TJx4a65c) (N := 3) hx hb hts hin_Jx4a65c hown hw hq0 hf_1 rfl 2 (by decide) (hts (.fieldLink RJx4a65c 48 "java/util/ArrayList" "size" "I") (by decide +kernel)) (fun _ h9 => h9) rfl dJx4a65c_add_7a177_16 ?_
  refine lv_dup hx hb dJx4a65c_add_7a177_19 rfl ?_
  refine lv_istore_n (lv' := [(3, .int (nI n)), (0, .ref h0), (1, .int (nI z)), (2, .ref v)]) hx hb dJx4a65c_add_7a177_20 rfl hl (by decide) rfl (fun ls hl => ?_)
  refine lv_aload_n hx hb dJx4a65c_add_7a177_21 rfl (lv_at hl 1 rfl) ?_
  refine pm_get (ci := 2) (v := .ref ea) (C := RJx4a65c) (T := TJx4a65c) (N := 3) hx hb hts hin_Jx4a65c hown hw hq0 hf_1 rfl 1 (by decide) (hts (.fieldLink RJx4a65c 9 "java/util/ArrayList" "elementData" "[Ljava/lang/Object;") (by decide +kernel)) (fun _ h9 => h9) rfl dJx4a65c_add_7a177_22 ?_
  refine lv_dup hx hb dJx4a65c_add_7a177_25 rfl ?_
  refine lv_astore (lv' := [(4, .ref ea), (3, .int (nI n)), (0, .ref h0), (1, .int (nI z)), (2, .ref v)]) hx hb dJx4a65c_add_7a177_26 hl (by decide) rfl (fun ls hl => ?_)
  refine pm_ilen (v := (Int32.ofNat cap)) hx hb hw 2 hq1 hf_2 rfl rfl dJx4a65c_add_7a177_28 ?_
  refine lv_icmp_ne (tgt := 38) hx hb dJx4a65c_add_7a177_29 (by decide) (fun c_29 => ?_) (fun c_29 => ?_)
  · refine lv_aload hx hb dJx4a65c_add_7a177_38 (lv_at hl 0 rfl) ?_
    refine lv_iload_n hx hb dJx4a65c_add_7a177_40 rfl (lv_at hl 3 rfl) ?_
    refine lv_aload hx hb dJx4a65c_add_7a177_41 (lv_at hl 0 rfl) ?_
    refine lv_iload_n hx hb dJx4a65c_add_7a177_43 rfl (lv_at hl 3 rfl) ?_
    refine lv_iconst (v := 1) hx hb dJx4a65c_add_7a177_44 (by decide) ?_
    refine lv_iadd hx hb dJx4a65c_add_7a177_45 ?_
    refine lv_iload_n hx hb dJx4a65c_add_7a177_46 rfl (lv_at hl 1 rfl) ?_
    refine lv_iload_n hx hb dJx4a65c_add_7a177_47 rfl (lv_at hl 3 rfl) ?_
    refine lv_isub hx hb dJx4a65c_add_7a177_48 ?_
    refine pm_copy (spn := z) (dpn := z + 1) (nn := n - z) (r0 := rf) (r1 := rf) hx hb (hml.trans hl.1.symm) hown (hts (.methodLink RJx4a65c 112 arraycopyName) (by decide +kernel)) (hts (.native arraycopyName) (by decide +kernel)) (hts (.static arraycopyName) (by decide +kernel)) (hts (.initialized "java/lang/System") (by decide +kernel)) hw hs.2 hq1 hf_2 hq1 hf_2 rfl (nI_1 _) (pk_sub (by omega)) ⟨by omega, by omega, by omega, by omega⟩ (fun i hi y hy => ho_4 (z + i) (by omega) y hy) (Nat.le_of_ble_eq_true rfl) (by decide) dJx4a65c_add_7a177_49 (fun H locs hw => ?_)
    have hf_5 : (va_up (va_up f h0 (.inr (2, [.int (mc + 1), .ref ea, .int (nI n)]))) ea (.inl (g.2.1 2, cap, .inr (.inr (.inr (.inr (va_cpy rf rf z (z + 1) (n - z)))))))) ea = .inl (g.2.1 2, cap, .inr (.inr (.inr (.inr (va_cpy rf rf z (z + 1) (n - z)))))) := pu_s
    have hf_6 : (va_up (va_up f h0 (.inr (2, [.int (mc + 1), .ref ea, .int (nI n)]))) ea (.inl (g.2.1 2, cap, .inr (.inr (.inr (.inr (va_cpy rf rf z (z + 1) (n - z)))))))) h0 = .inr (2, [.int (mc + 1), .ref ea, .int (nI n)]) := pu_n (pm_ne hf_1 hf_2 (by simp)) hf_1
    have ho_7 := okE.up (e1 := .inl (g.2.1 2, cap, .inr (.inr (.inr (.inr (va_cpy rf rf z (z + 1) (n - z))))))) (ho_3) hf_2 (by intro i fs hi; rcases hi with rfl | rfl <;> simp)
    have ho_8 := fun (j : Nat) (hj : j < n) (y : Nat) (hy : _ = some y) => okE.up (e1 := .inl (g.2.1 2, cap, .inr (.inr (.inr (.inr (va_cpy rf rf z (z + 1) (n - z))))))) (ho_4 j hj y hy) hf_2 (by intro i fs hi; rcases hi with rfl | rfl <;> simp)
    refine lv_aload hx hb dJx4a65c_add_7a177_52 (lv_at hl 0 rfl) ?_
    refine lv_iload_n hx hb dJx4a65c_add_7a177_54 rfl (lv_at hl 3 rfl) ?_
    refine lv_aload_n hx hb dJx4a65c_add_7a177_55 rfl (lv_at hl 4 rfl) ?_
    refine pm_aast (n := cap) (r := (va_cpy rf rf z (z + 1) (n - z))) hx hb hw hs.2 hq1 hf_5 (ho_7) (j := z) (nI_clamp (by omega)) (vp_in_nI (by omega) (by omega)) dJx4a65c_add_7a177_56 (fun H locs hw => ?_)
    have hf_9 : (va_up (va_up (va_up f h0 (.inr (2, [.int (mc + 1), .ref ea, .int (nI n)]))) ea (.inl (g.2.1 2, cap, .inr (.inr (.inr (.inr (va_cpy rf rf z (z + 1) (n - z)))))))) ea (.inl (g.2.1 2, cap, .inr (.inr (.inr (.inr (va_up (va_cpy rf rf z (z + 1) (n - z)) z (some v)))))))) ea = .inl (g.2.1 2, cap, .inr (.inr (.inr (.inr (va_up (va_cpy rf rf z (z + 1) (n - z)) z (some v)))))) := pu_s
    have hf_10 : (va_up (va_up (va_up f h0 (.inr (2, [.int (mc + 1), .ref ea, .int (nI n)]))) ea (.inl (g.2.1 2, cap, .inr (.inr (.inr (.inr (va_cpy rf rf z (z + 1) (n - z)))))))) ea (.inl (g.2.1 2, cap, .inr (.inr (.inr (.inr (va_up (va_cpy rf rf z (z + 1) (n - z)) z (some v)))))))) h0 = .inr (2, [.int (mc + 1), .ref ea, .int (nI n)]) := pu_n (pm_ne hf_6 hf_5 (by simp)) hf_6
    have ho_11 := okE.up (e1 := .inl (g.2.1 2, cap, .inr (.inr (.inr (.inr (va_up (va_cpy rf rf z (z + 1) (n - z)) z (some v))))))) (ho_7) hf_5 (by intro i fs hi; rcases hi with rfl | rfl <;> simp)
    have ho_12 := fun (j : Nat) (hj : j < n) (y : Nat) (hy : _ = some y) => okE.up (e1 := .inl (g.2.1 2, cap, .inr (.inr (.inr (.inr (va_up (va_cpy rf rf z (z + 1) (n - z)) z (some v))))))) (ho_8 j hj y hy) hf_5 (by intro i fs hi; rcases hi with rfl | rfl <;> simp)
    refine lv_aload_n hx hb dJx4a65c_add_7a177_57 rfl (lv_at hl 2 rfl) ?_
    refine lv_iload_n hx hb dJx4a65c_add_7a177_58 rfl (lv_at hl 1 rfl) ?_
    refine lv_iconst (v := 1) hx hb dJx4a65c_add_7a177_59 (by decide) ?_
    refine lv_iadd hx hb dJx4a65c_add_7a177_60 ?_
    refine pm_put (ci := 2) (v := .int ((nI n) + 1)) (ty := .int) (C := RJx4a65c) (T := TJx4a65c) (N := 3) hx hb hts hin_Jx4a65c tyJx4a65c tyJx4a65c_ok nmJx4a65c hown hw hq0 hf_10 rfl 2 (by decide) (hts (.fieldLink RJx4a65c 48 "java/util/ArrayList" "size" "I") (by decide +kernel)) (fun _ h9 => h9) rfl (by decide +kernel) rfl rfl (Nat.le_of_ble_eq_true rfl) dJx4a65c_add_7a177_61 (fun H locs hw => ?_)
    have hf_13 : (va_up (va_up (va_up (va_up f h0 (.inr (2, [.int (mc + 1), .ref ea, .int (nI n)]))) ea (.inl (g.2.1 2, cap, .inr (.inr (.inr (.inr (va_cpy rf rf z (z + 1) (n - z)))))))) ea (.inl (g.2.1 2, cap, .inr (.inr (.inr (.inr (va_up (va_cpy rf rf z (z + 1) (n - z)) z (some v)))))))) h0 (.inr (2, [.int (mc + 1), .ref ea, .int ((nI n) + 1)]))) h0 = .inr (2, [.int (mc + 1), .ref ea, .int ((nI n) + 1)]) := pu_s
    have hf_14 : (va_up (va_up (va_up (va_up f h0 (.inr (2, [.int (mc + 1), .ref ea, .int (nI n)]))) ea (.inl (g.2.1 2, cap, .inr (.inr (.inr (.inr (va_cpy rf rf z (z + 1) (n - z)))))))) ea (.inl (g.2.1 2, cap, .inr (.inr (.inr (.inr (va_up (va_cpy rf rf z (z + 1) (n - z)) z (some v)))))))) h0 (.inr (2, [.int (mc + 1), .ref ea, .int ((nI n) + 1)]))) ea = .inl (g.2.1 2, cap, .inr (.inr (.inr (.inr (va_up (va_cpy rf rf z (z + 1) (n - z)) z (some v)))))) := pu_n (pm_ne hf_9 hf_10 (by simp)) hf_9
    have ho_15 := okE.up (e1 := .inr (2, [.int (mc + 1), .ref ea, .int ((nI n) + 1)])) (ho_11) hf_10 (by intro i fs hi; rcases hi with rfl | rfl <;> simp)
    have ho_16 := fun (j : Nat) (hj : j < n) (y : Nat) (hy : _ = some y) => okE.up (e1 := .inr (2, [.int (mc + 1), .ref ea, .int ((nI n) + 1)])) (ho_12 j hj y hy) hf_10 (by intro i fs hi; rcases hi with rfl | rfl <;> simp)
    rw [nI_1] at hw
    exact pr_v hx hb hr hlocks hw ⟨Nat.le_of_ble_eq_true rfl, Nat.le_of_ble_eq_true rfl⟩ (⟨ea, cap, _, fun b hb => hb, pu_s, hq1, pu_n hne8 pu_s, ⟨by omega, hn.2⟩, insT_cpy hp0 (fun j hj => rfl), fun b hb h1 h2 => pu_n h1 (pu_n h2 (pu_n h2 (pu_n h1 rfl))), Or.inl ⟨rfl, hq1⟩⟩) dJx4a65c_add_7a177_64
  · exact absurd ((nI_eq (by omega) (by omega)).mp c_29) (by omega)

set_option maxHeartbeats 4000000 in
set_option maxRecDepth 100000 in
theorem c_addAtF (l : Launch) (g : GE) (L : List Nat) (f : Nat → va_E)  (h0 : Nat) (mc : Int32) (rf : Nat → Option Nat) (hq0 : h0 ∈ L) (hf0 : f h0 = .inr (2, [.int mc, .ref (g.2.2 4), .int 0])) (v : Nat) (hvE : okE L f v) : Mv l yJx4a65c_add_7a177 wsJx4a65c_add_7a177 (rmH 5 1 200) g L f [.ref h0, .int 0, .ref v] (fun u => AddP g L f h0 (mc + 1) (g.2.2 4) 0 (insT rf 0 v) u) 1 200 := by
  intro sz
  refine Met.ofW (cc := cJx4a65c_add_7a177) (maxL := 5) (ret := none) (by decide) rfl ?_
  intro p e s m args below meth c s₁ B hml hv
  obtain ⟨rfl, hv⟩ := hv
  have hx := B.exec
  have hb := B.bytes
  have hr := B.returns
  have hts := atoms_spec (ws := wsJx4a65c_add_7a177) B.pre
  have hown : s.vm.findClass RJx4a65c = some m.cls := findClass_of_methodNamed B.named
  have hlocks := B.notSynchronized
  obtain ⟨rfl, hw, hs⟩ := pm_begin hv
  generalize va_A (va_pl L f) s.heap.size = A at hw hs ⊢
  have CF := (⟨hx, hb, hml, hown, hts⟩ : CallFix p m c cJx4a65c_add_7a177 5 s _ wsJx4a65c_add_7a177 RJx4a65c)
  have hin_Jx4a65c : ∀ w ∈ wsJx4a65c0, w ∈ wsJx4a65c_add_7a177 := by decide +kernel
  have hl := lv_entry ([.ref h0, .int 0, .ref v]) (n := 5) (Nat.le_of_ble_eq_true rfl)
  rw [lg_entry_eq]
  generalize (lg_sl ([.ref h0, .int 0, .ref v]) ++ List.replicate (5 - (lg_sl ([.ref h0, .int 0, .ref v])).length) Slot.unset).toArray = ls at hl ⊢
  have hl : lv_has ls 5 [(0, .ref h0), (1, .int 0), (2, .ref v)] := hl
  refine lv_aload_n hx hb dJx4a65c_add_7a177_0 rfl (lv_at hl 0 rfl) ?_
  refine lv_iload_n hx hb dJx4a65c_add_7a177_1 rfl (lv_at hl 1 rfl) ?_
  refine pc_v hw (va_runV (As := [.int 0]) (rest := []) CF (c_rangeCheck l g L _ h0 (g.2.2 4) 0 mc hq0 hf0 0 (Nat.le_refl 0) (by decide) _) (cwV 1 hts gJx4a65c_add_7a177_Jx4a65c_rangeCheckForAdd_d00df rfl rfl rfl (by decide +kernel) ⟨Nat.le_of_ble_eq_true rfl, Nat.le_of_ble_eq_true rfl⟩) (pm_preV hw hs (pm_recv hw hq0 hf0 rfl)) rfl rfl hl.1 rfl (lv_room (Nat.le_of_ble_eq_true rfl)) dJx4a65c_add_7a177_2 ⟨Nat.le_of_ble_eq_true rfl, Nat.le_of_ble_eq_true rfl⟩) (fun L1 f1 H locs hp hw => ?_)
  obtain rfl : _ = L1 := (congrArg Prod.fst hp).symm
  obtain rfl : _ = f1 := (congrArg Prod.snd hp).symm
  refine lv_aload_n hx hb dJx4a65c_add_7a177_5 rfl (lv_at hl 0 rfl) ?_
  refine lv_dup hx hb dJx4a65c_add_7a177_6 rfl ?_
  refine pm_get (ci := 2) (v := .int mc) (C := RJx4a65c) (T := TJx4a65c) (N := 3) hx hb hts hin_Jx4a65c hown hw hq0 hf0 rfl 0 (by decide) (hts (.fieldLink RJx4a65c 63 "java/util/ArrayList" "modCount" "I") (by decide +kernel)) (u_same (args := #[]) (va_Nw.use (A := #[]) rfl (hs.2.2.1 (.sameField "java/util/ArrayList" "java/util/AbstractList" "modCount" "I") (by decide +kernel)))) rfl dJx4a65c_add_7a177_7 ?_
  refine lv_iconst (v := 1) hx hb dJx4a65c_add_7a177_10 (by decide) ?_
  refine lv_iadd hx hb dJx4a65c_add_7a177_11 ?_
  refine pm_put (ci := 2) (v := .int (mc + 1)) (ty := .int) (C := RJx4a65c) (T := TJx4a65c) (N := 3) hx hb hts hin_Jx4a65c tyJx4a65c tyJx4a65c_ok nmJx4a65c hown hw hq0 hf0 rfl 0 (by decide) (hts (.fieldLink RJx4a65c 63 "java/util/ArrayList" "modCount" "I") (by decide +kernel)) (u_same (args := #[]) (va_Nw.use (A := #[]) rfl (hs.2.2.1 (.sameField "java/util/ArrayList" "java/util/AbstractList" "modCount" "I") (by decide +kernel)))) rfl (by decide +kernel) rfl rfl (Nat.le_of_ble_eq_true rfl) dJx4a65c_add_7a177_12 (fun H locs hw => ?_)
  have hf_1 : (va_up f h0 (.inr (2, [.int (mc + 1), .ref (g.2.2 4), .int 0]))) h0 = .inr (2, [.int (mc + 1), .ref (g.2.2 4), .int 0]) := pu_s
  have ho_2 := okE.up (e1 := .inr (2, [.int (mc + 1), .ref (g.2.2 4), .int 0])) (hvE) hf0 (by intro i fs hi; rcases hi with rfl | rfl <;> simp)
  refine lv_aload_n hx hb dJx4a65c_add_7a177_15 rfl (lv_at hl 0 rfl) ?_
  refine pm_get (ci := 2) (v := .int 0) (C := RJx4a65c) (T := TJx4a65c) (N := 3) hx hb hts hin_Jx4a65c hown hw hq0 hf_1 rfl 2 (by decide) (hts (.fieldLink RJx4a65c 48 "java/util/ArrayList" "size" "I") (by decide +kernel)) (fun _ h9 => h9) rfl dJx4a65c_add_7a177_16 ?_
  refine lv_dup hx hb dJx4a65c_add_7a177_19 rfl ?_
  refine lv_istore_n (lv' := [(3, .int 0), (0, .ref h0), (1, .int 0), (2, .ref v)]) hx hb dJx4a65c_add_7a177_20 rfl hl (by decide) rfl (fun ls hl => ?_)
  refine lv_aload_n hx hb dJx4a65c_add_7a177_21 rfl (lv_at hl 1 rfl) ?_
  refine pm_get (ci := 2) (v := .ref (g.2.2 4)) (C := RJx4a65c) (T := TJx4a65c) (N := 3) hx hb hts hin_Jx4a65c hown hw hq0 hf_1 rfl 1 (by decide) (hts (.fieldLink RJx4a65c 9 "java/util/ArrayList" "elementData" "[Ljava/lang/Object;") (by decide +kernel)) (fun _ h9 => h9) rfl dJx4a65c_add_7a177_22 ?_
  refine lv_dup hx hb dJx4a65c_add_7a177_25 rfl ?_
  refine lv_astore (lv' := [(4, .ref (g.2.2 4)), (3, .int 0), (0, .ref h0), (1, .int 0), (2, .ref v)]) hx hb dJx4a65c_add_7a177_26 hl (by decide) rfl (fun ls hl => ?_)
  refine va_tlen (v := 0) hx hb hs.1.2.1.2 hw.2.2.2.1 rfl dJx4a65c_add_7a177_28 ?_
  refine lv_icmp_ne (tgt := 38) hx hb dJx4a65c_add_7a177_29 (by decide) (fun c_29 => ?_) (fun c_29 => ?_)
  · exact absurd rfl c_29
  · refine lv_aload_n hx hb dJx4a65c_add_7a177_32 rfl (lv_at hl 2 rfl) ?_
    refine pc_q hw (va_runV (As := []) (rest := []) CF (c_grow0F l g L _ h0 (mc + 1) rf hq0 hf_1 _) (cwV 0 hts gJx4a65c_add_7a177_Jx4a65c_grow_d5877 rfl rfl rfl (by decide +kernel) ⟨Nat.le_of_ble_eq_true rfl, Nat.le_of_ble_eq_true rfl⟩) (pm_preV hw hs (pm_recv hw hq0 hf_1 rfl)) rfl rfl hl.1 rfl (lv_room (Nat.le_of_ble_eq_true rfl)) dJx4a65c_add_7a177_33 ⟨Nat.le_of_ble_eq_true rfl, Nat.le_of_ble_eq_true rfl⟩) (fun r L1 f1 H locs hp hw => ?_)
    obtain ⟨q, cap9, rf9, rfl, hqn, hc9, hr9, hu⟩ := hp
    obtain rfl : _ = L1 := (congrArg Prod.fst hu).symm
    obtain rfl : _ = f1 := (congrArg Prod.snd hu).symm
    have hne9 : q ≠ h0 := fun e9 => hqn (e9 ▸ hq0)
    have hf_h : (va_up (va_up (va_up f h0 (.inr (2, [.int (mc + 1), .ref (g.2.2 4), .int 0]))) q (eO g cap9 rf9)) h0 (.inr (2, [.int (mc + 1), .ref q, .int 0]))) h0 = .inr (2, [.int (mc + 1), .ref q, .int 0]) := pu_s
    have hq_h : h0 ∈ L ++ [q] := List.mem_append_left _ hq0
    have hf_q : (va_up (va_up (va_up f h0 (.inr (2, [.int (mc + 1), .ref (g.2.2 4), .int 0]))) q (eO g cap9 rf9)) h0 (.inr (2, [.int (mc + 1), .ref q, .int 0]))) q = eO g cap9 rf9 := pu_n hne9 pu_s
    have hq_q : q ∈ L ++ [q] := List.mem_append_right _ (List.mem_singleton.mpr rfl)
    have ho_v := okE.up (e1 := .inr (2, [.int (mc + 1), .ref q, .int 0])) (okE.more (e1 := eO g cap9 rf9) (ho_2) hqn) (pu_n (fun e9 => hqn (e9 ▸ hq0)) hf_1) (by intro i fs hi; rcases hi with rfl | rfl <;> simp)
    refine lv_astore (lv' := [(4, .ref q), (3, .int 0), (0, .ref h0), (1, .int 0), (2, .ref v)]) hx hb dJx4a65c_add_7a177_36 hl (by decide) rfl (fun ls hl => ?_)
    refine lv_aload hx hb dJx4a65c_add_7a177_38 (lv_at hl 0 rfl) ?_
    refine lv_iload_n hx hb dJx4a65c_add_7a177_40 rfl (lv_at hl 3 rfl) ?_
    refine lv_aload hx hb dJx4a65c_add_7a177_41 (lv_at hl 0 rfl) ?_
    refine lv_iload_n hx hb dJx4a65c_add_7a177_43 rfl (lv_at hl 3 rfl) ?_
    refine lv_iconst (v := 1) hx hb dJx4a65c_add_7a177_44 (by decide) ?_
    refine lv_iadd hx hb dJx4a65c_add_7a177_45 ?_
    refine lv_iload_n hx hb dJx4a65c_add_7a177_46 rfl (lv_at hl 1 rfl) ?_
    refine lv_iload_n hx hb dJx4a65c_add_7a177_47 rfl (lv_at hl 3 rfl) ?_
    refine lv_isub hx hb dJx4a65c_add_7a177_48 ?_
    refine pm_copy (spn := 0) (dpn := 0 + 1) (nn := 0 - 0) (r0 := rf9) (r1 := rf9) hx hb (hml.trans hl.1.symm) hown (hts (.methodLink RJx4a65c 112 arraycopyName) (by decide +kernel)) (hts (.native arraycopyName) (by decide +kernel)) (hts (.static arraycopyName) (by decide +kernel)) (hts (.initialized "java/lang/System") (by decide +kernel)) hw hs.2 hq_q hf_q hq_q hf_q rfl (rfl) (rfl) ⟨by omega, by omega, by omega, by omega⟩ (fun i hi y hy => absurd hi (by omega)) (Nat.le_of_ble_eq_true rfl) (by decide) dJx4a65c_add_7a177_49 (fun H locs hw => ?_)
    have hf_3 : (va_up (va_up (va_up (va_up f h0 (.inr (2, [.int (mc + 1), .ref (g.2.2 4), .int 0]))) q (eO g cap9 rf9)) h0 (.inr (2, [.int (mc + 1), .ref q, .int 0]))) q (.inl (g.2.1 2, cap9, .inr (.inr (.inr (.inr (va_cpy rf9 rf9 0 (0 + 1) (0 - 0)))))))) q = .inl (g.2.1 2, cap9, .inr (.inr (.inr (.inr (va_cpy rf9 rf9 0 (0 + 1) (0 - 0)))))) := pu_s
    have hf_4 : (va_up (va_up (va_up (va_up f h0 (.inr (2, [.int (mc + 1), .ref (g.2.2 4), .int 0]))) q (eO g cap9 rf9)) h0 (.inr (2, [.int (mc + 1), .ref q, .int 0]))) q (.inl (g.2.1 2, cap9, .inr (.inr (.inr (.inr (va_cpy rf9 rf9 0 (0 + 1) (0 - 0)))))))) h0 = .inr (2, [.int (mc + 1), .ref q, .int 0]) := pu_n (pm_ne hf_h hf_q (by simp)) hf_h
    have ho_5 := okE.up (e1 := .inl (g.2.1 2, cap9, .inr (.inr (.inr (.inr (va_cpy rf9 rf9 0 (0 + 1) (0 - 0))))))) (ho_v) hf_q (by intro i fs hi; rcases hi with rfl | rfl <;> simp)
    refine lv_aload hx hb dJx4a65c_add_7a177_52 (lv_at hl 0 rfl) ?_
    refine lv_iload_n hx hb dJx4a65c_add_7a177_54 rfl (lv_at hl 3 rfl) ?_
    refine lv_aload_n hx hb dJx4a65c_add_7a177_55 rfl (lv_at hl 4 rfl) ?_
    refine pm_aast (n := cap9) (r := (va_cpy rf9 rf9 0 (0 + 1) (0 - 0))) hx hb hw hs.2 hq_q hf_3 (ho_5) (j := 0) (rfl) (by unfold vp_in; exact fun q => q.elim (by decide) (fun q => by have : (0 : Int32).toNatClampNeg = 0 := rfl; omega)) dJx4a65c_add_7a177_56 (fun H locs hw => ?_)
    have hf_6 : (va_up (va_up (va_up (va_up (va_up f h0 (.inr (2, [.int (mc + 1), .ref (g.2.2 4), .int 0]))) q (eO g cap9 rf9)) h0 (.inr (2, [.int (mc + 1), .ref q, .int 0]))) q (.inl (g.2.1 2, cap9, .inr (.inr (.inr (.inr (va_cpy rf9 rf9 0 (0 + 1) (0 - 0)))))))) q (.inl (g.2.1 2, cap9, .inr (.inr (.inr (.inr (va_up (va_cpy rf9 rf9 0 (0 + 1) (0 - 0)) 0 (some v)))))))) q = .inl (g.2.1 2, cap9, .inr (.inr (.inr (.inr (va_up (va_cpy rf9 rf9 0 (0 + 1) (0 - 0)) 0 (some v)))))) := pu_s
    have hf_7 : (va_up (va_up (va_up (va_up (va_up f h0 (.inr (2, [.int (mc + 1), .ref (g.2.2 4), .int 0]))) q (eO g cap9 rf9)) h0 (.inr (2, [.int (mc + 1), .ref q, .int 0]))) q (.inl (g.2.1 2, cap9, .inr (.inr (.inr (.inr (va_cpy rf9 rf9 0 (0 + 1) (0 - 0)))))))) q (.inl (g.2.1 2, cap9, .inr (.inr (.inr (.inr (va_up (va_cpy rf9 rf9 0 (0 + 1) (0 - 0)) 0 (some v)))))))) h0 = .inr (2, [.int (mc + 1), .ref q, .int 0]) := pu_n (pm_ne hf_4 hf_3 (by simp)) hf_4
    have ho_8 := okE.up (e1 := .inl (g.2.1 2, cap9, .inr (.inr (.inr (.inr (va_up (va_cpy rf9 rf9 0 (0 + 1) (0 - 0)) 0 (some v))))))) (ho_5) hf_3 (by intro i fs hi; rcases hi with rfl | rfl <;> simp)
    refine lv_aload_n hx hb dJx4a65c_add_7a177_57 rfl (lv_at hl 2 rfl) ?_
    refine lv_iload_n hx hb dJx4a65c_add_7a177_58 rfl (lv_at hl 1 rfl) ?_
    refine lv_iconst (v := 1) hx hb dJx4a65c_add_7a177_59 (by decide) ?_
    refine lv_iadd hx hb dJx4a65c_add_7a177_60 ?_
    refine pm_put (ci := 2) (v := .int (0 + 1)) (ty := .int) (C := RJx4a65c) (T := TJx4a65c) (N := 3) hx hb hts hin_Jx4a65c tyJx4a65c tyJx4a65c_ok nmJx4a65c hown hw hq_h hf_7 rfl 2 (by decide) (hts (.fieldLink RJx4a65c 48 "java/util/ArrayList" "size" "I") (by decide +kernel)) (fun _ h9 => h9) rfl (by decide +kernel) rfl rfl (Nat.le_of_ble_eq_true rfl) dJx4a65c_add_7a177_61 (fun H locs hw => ?_)
    have hf_9 : (va_up (va_up (va_up (va_up (va_up (va_up f h0 (.inr (2, [.int (mc + 1), .ref (g.2.2 4), .int 0]))) q (eO g cap9 rf9)) h0 (.inr (2, [.int (mc + 1), .ref q, .int 0]))) q (.inl (g.2.1 2, cap9, .inr (.inr (.inr (.inr (va_cpy rf9 rf9 0 (0 + 1) (0 - 0)))))))) q (.inl (g.2.1 2, cap9, .inr (.inr (.inr (.inr (va_up (va_cpy rf9 rf9 0 (0 + 1) (0 - 0)) 0 (some v)))))))) h0 (.inr (2, [.int (mc + 1), .ref q, .int (0 + 1)]))) h0 = .inr (2, [.int (mc + 1), .ref q, .int (0 + 1)]) := pu_s
    have hf_10 : (va_up (va_up (va_up (va_up (va_up (va_up f h0 (.inr (2, [.int (mc + 1), .ref (g.2.2 4), .int 0]))) q (eO g cap9 rf9)) h0 (.inr (2, [.int (mc + 1), .ref q, .int 0]))) q (.inl (g.2.1 2, cap9, .inr (.inr (.inr (.inr (va_cpy rf9 rf9 0 (0 + 1) (0 - 0)))))))) q (.inl (g.2.1 2, cap9, .inr (.inr (.inr (.inr (va_up (va_cpy rf9 rf9 0 (0 + 1) (0 - 0)) 0 (some v)))))))) h0 (.inr (2, [.int (mc + 1), .ref q, .int (0 + 1)]))) q = .inl (g.2.1 2, cap9, .inr (.inr (.inr (.inr (va_up (va_cpy rf9 rf9 0 (0 + 1) (0 - 0)) 0 (some v)))))) := pu_n (pm_ne hf_6 hf_7 (by simp)) hf_6
    have ho_11 := okE.up (e1 := .inr (2, [.int (mc + 1), .ref q, .int (0 + 1)])) (ho_8) hf_7 (by intro i fs hi; rcases hi with rfl | rfl <;> simp)
    exact pr_v hx hb hr hlocks hw ⟨Nat.le_of_ble_eq_true rfl, Nat.le_of_ble_eq_true rfl⟩ (⟨q, cap9, _, fun b hb => List.mem_append_left _ hb, pu_s, List.mem_append_right _ (List.mem_singleton.mpr rfl), pu_n hne9 pu_s, hc9, insT_cpy (Nat.le_refl 0) hr9, fun b hb h1 h2 => pu_n h1 (pu_n h2 (pu_n h2 (pu_n h1 (pu_n (fun e9 => hqn (e9 ▸ hb)) (pu_n h1 rfl))))), Or.inr hqn⟩) dJx4a65c_add_7a177_64

/-- List.add(p, e), whatever the list's row is -/
theorem c_addAt (l : Launch) (g : GE) (L : List Nat) (f : Nat → va_E) (h0 ea n cap : Nat) (mc : Int32) (rf : Nat → Option Nat) (hLS : LsT g L f h0 mc ea n cap rf) (v : Nat) (hvE : okE L f v) (p : Nat) (hp0 : p ≤ n) : Mv l yJx4a65c_add_7a177 wsJx4a65c_add_7a177 (rmH 5 1 200) g L f [.ref h0, .int (nI p), .ref v] (fun u => AddP g L f h0 (mc + 1) ea n (insT rf p v) u) 1 200 := by
  obtain ⟨hq0, hf0, hc, h1, h2, h3, hok⟩ := hLS
  rcases hc with ⟨rfl, rfl⟩ | ⟨hq1, hf1, hz0⟩
  · obtain rfl : p = 0 := by omega
    exact c_addAtF l g L f h0 mc rf hq0 hf0 v hvE
  · rcases Nat.lt_or_eq_of_le h1 with h | h
    · exact c_addAtS l g L f h0 ea n cap mc rf hq0 hf0 hq1 hf1 ⟨h, h2⟩ hok v hvE p hp0
    · subst h
      by_cases hz : 0 < n
      · exact c_addAtR l g L f h0 ea n mc rf hq0 hf0 hq1 hf1 ⟨hz, h3⟩ hok v hvE p hp0
      · exact absurd hz0 hz

end LISTD
