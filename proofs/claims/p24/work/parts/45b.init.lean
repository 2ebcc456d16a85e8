/-! making: the constructors -/
section INIT
set_option maxHeartbeats 4000000 in
set_option maxRecDepth 100000 in
theorem c_Change_init (l : Launch) (g : GE) (L : List Nat) (f : Nat → va_E)  (h0 po ki : Nat) (nu fl fr am to : Int32) (hq0 : h0 ∈ L) (hf0 : f h0 = .inr (3, [.int 0, .null, .null, .int 0, .int 0, .int 0, .int 0, .int 0])) : Mv l yX0_init wsX0_init (rmH 0 0 0) g L f [.ref h0, .int nu, .ref po, .ref ki, .int fl, .int fr, .int am, .int to] (fun u => u = (L, va_up f h0 (.inr (3, [.int nu, .ref po, .ref ki, .int fl, .int fr, .int am, .int to, .int (-1)])))) 0 0 := by
  intro sz
  refine Met.ofW (cc := cX0_init) (maxL := 8) (ret := none) (by decide) rfl ?_
  intro p e s m args below meth c s₁ B hml hv
  obtain ⟨rfl, hv⟩ := hv
  have hx := B.exec
  have hb := B.bytes
  have hr := B.returns
  have hts := atoms_spec (ws := wsX0_init) B.pre
  have hown : s.vm.findClass RX0 = some m.cls := findClass_of_methodNamed B.named
  have hlocks := B.notSynchronized
  have hin0 : meth.name = "<init>" := (name_of_methodNamed B.named B.method).1
  obtain ⟨rfl, hw, hs⟩ := pm_begin hv
  generalize va_A (va_pl L f) s.heap.size = A at hw hs ⊢
  have CF := (⟨hx, hb, hml, hown, hts⟩ : CallFix p m c cX0_init 8 s _ wsX0_init RX0)
  have hin_X0 : ∀ w ∈ wsX00, w ∈ wsX0_init := by decide +kernel
  have hl := lv_entry ([.ref h0, .int nu, .ref po, .ref ki, .int fl, .int fr, .int am, .int to]) (n := 8) (Nat.le_of_ble_eq_true rfl)
  rw [lg_entry_eq]
  generalize (lg_sl ([.ref h0, .int nu, .ref po, .ref ki, .int fl, .int fr, .int am, .int to]) ++ List.replicate (8 - (lg_sl ([.ref h0, .int nu, .ref po, .ref ki, .int fl, .int fr, .int am, .int to])).length) Slot.unset).toArray = ls at hl ⊢
  have hl : lv_has ls 8 [(0, .ref h0), (1, .int nu), (2, .ref po), (3, .ref ki), (4, .int fl), (5, .int fr), (6, .int am), (7, .int to)] := hl
  refine lv_aload_n hx hb dX0_init_0 rfl (lv_at hl 0 rfl) ?_
  refine W.objInit hx hb hown (hts (.methodLink RX0 3 objectInit) (by decide +kernel)) (hts (.instanceMethod objectInit) (by decide +kernel)) (hts (.code objectInit ⟨#[0xb1]⟩ 1 none) (by decide +kernel)) rfl (by rw [hml]; exact hl.1) rfl dX0_init_1 (Nat.le_of_ble_eq_true rfl) (Nat.le_of_ble_eq_true rfl) ?_
  refine W.eq (g2 := F0 m 4 ls []) rfl ?_
  refine lv_aload_n hx hb dX0_init_4 rfl (lv_at hl 0 rfl) ?_
  refine lv_iconst (v := (-1)) hx hb dX0_init_5 (by decide) ?_
  refine pm_put (ci := 3) (v := .int (-1)) (ty := .int) (C := RX0) (T := TX0) (N := 8) hx hb hts hin_X0 tyX0 tyX0_ok nmX0 hown hw hq0 hf0 rfl 7 (by decide) (hts (.fieldLink RX0 9 "Backdater$Change" "takenBackOn" "I") (by decide +kernel)) (fun _ h9 => h9) rfl (by decide +kernel) rfl rfl (Nat.le_of_ble_eq_true rfl) dX0_init_6 (fun H locs hw => ?_)
  have hf_1 : (va_up f h0 (.inr (3, [.int 0, .null, .null, .int 0, .int 0, .int 0, .int 0, .int (-1)]))) h0 = .inr (3, [.int 0, .null, .null, .int 0, .int 0, .int 0, .int 0, .int (-1)]) := pu_s
  refine lv_aload_n hx hb dX0_init_9 rfl (lv_at hl 0 rfl) ?_
  refine lv_iload_n hx hb dX0_init_10 rfl (lv_at hl 1 rfl) ?_
  refine pm_putF (ci := 3) (v := .int nu) (ty := .int) (C := RX0) (T := TX0) (N := 8) hx hb hts hin_X0 tyX0 tyX0_ok nmX0 hown hw hq0 hf_1 rfl 0 (by decide) (hts (.fieldLink RX0 15 "Backdater$Change" "number" "I") (by decide +kernel)) (fun _ h9 => h9) rfl hin0 rfl (by decide +kernel) rfl rfl (Nat.le_of_ble_eq_true rfl) dX0_init_11 (fun H locs hw => ?_)
  have hf_2 : (va_up (va_up f h0 (.inr (3, [.int 0, .null, .null, .int 0, .int 0, .int 0, .int 0, .int (-1)]))) h0 (.inr (3, [.int nu, .null, .null, .int 0, .int 0, .int 0, .int 0, .int (-1)]))) h0 = .inr (3, [.int nu, .null, .null, .int 0, .int 0, .int 0, .int 0, .int (-1)]) := pu_s
  refine lv_aload_n hx hb dX0_init_14 rfl (lv_at hl 0 rfl) ?_
  refine lv_aload_n hx hb dX0_init_15 rfl (lv_at hl 2 rfl) ?_
  refine pm_putF (ci := 3) (v := .ref po) (ty := .object "Backdater$Policy") (C := RX0) (T := TX0) (N := 8) hx hb hts hin_X0 tyX0 tyX0_ok nmX0 hown hw hq0 hf_2 rfl 1 (by decide) (hts (.fieldLink RX0 18 "Backdater$Change" "policy" "LBackdater$Policy;") (by decide +kernel)) (fun _ h9 => h9) rfl hin0 rfl (by decide +kernel) rfl rfl (Nat.le_of_ble_eq_true rfl) dX0_init_16 (fun H locs hw => ?_)
  have hf_3 : (va_up (va_up (va_up f h0 (.inr (3, [.int 0, .null, .null, .int 0, .int 0, .int 0, .int 0, .int (-1)]))) h0 (.inr (3, [.int nu, .null, .null, .int 0, .int 0, .int 0, .int 0, .int (-1)]))) h0 (.inr (3, [.int nu, .ref po, .null, .int 0, .int 0, .int 0, .int 0, .int (-1)]))) h0 = .inr (3, [.int nu, .ref po, .null, .int 0, .int 0, .int 0, .int 0, .int (-1)]) := pu_s
  refine lv_aload_n hx hb dX0_init_19 rfl (lv_at hl 0 rfl) ?_
  refine lv_aload_n hx hb dX0_init_20 rfl (lv_at hl 3 rfl) ?_
  refine pm_putF (ci := 3) (v := .ref ki) (ty := .object "Backdater$Kind") (C := RX0) (T := TX0) (N := 8) hx hb hts hin_X0 tyX0 tyX0_ok nmX0 hown hw hq0 hf_3 rfl 2 (by decide) (hts (.fieldLink RX0 22 "Backdater$Change" "kind" "LBackdater$Kind;") (by decide +kernel)) (fun _ h9 => h9) rfl hin0 rfl (by decide +kernel) rfl rfl (Nat.le_of_ble_eq_true rfl) dX0_init_21 (fun H locs hw => ?_)
  have hf_4 : (va_up (va_up (va_up (va_up f h0 (.inr (3, [.int 0, .null, .null, .int 0, .int 0, .int 0, .int 0, .int (-1)]))) h0 (.inr (3, [.int nu, .null, .null, .int 0, .int 0, .int 0, .int 0, .int (-1)]))) h0 (.inr (3, [.int nu, .ref po, .null, .int 0, .int 0, .int 0, .int 0, .int (-1)]))) h0 (.inr (3, [.int nu, .ref po, .ref ki, .int 0, .int 0, .int 0, .int 0, .int (-1)]))) h0 = .inr (3, [.int nu, .ref po, .ref ki, .int 0, .int 0, .int 0, .int 0, .int (-1)]) := pu_s
  refine lv_aload_n hx hb dX0_init_24 rfl (lv_at hl 0 rfl) ?_
  refine lv_iload hx hb dX0_init_25 (lv_at hl 4 rfl) ?_
  refine pm_putF (ci := 3) (v := .int fl) (ty := .int) (C := RX0) (T := TX0) (N := 8) hx hb hts hin_X0 tyX0 tyX0_ok nmX0 hown hw hq0 hf_4 rfl 3 (by decide) (hts (.fieldLink RX0 26 "Backdater$Change" "field" "I") (by decide +kernel)) (fun _ h9 => h9) rfl hin0 rfl (by decide +kernel) rfl rfl (Nat.le_of_ble_eq_true rfl) dX0_init_27 (fun H locs hw => ?_)
  have hf_5 : (va_up (va_up (va_up (va_up (va_up f h0 (.inr (3, [.int 0, .null, .null, .int 0, .int 0, .int 0, .int 0, .int (-1)]))) h0 (.inr (3, [.int nu, .null, .null, .int 0, .int 0, .int 0, .int 0, .int (-1)]))) h0 (.inr (3, [.int nu, .ref po, .null, .int 0, .int 0, .int 0, .int 0, .int (-1)]))) h0 (.inr (3, [.int nu, .ref po, .ref ki, .int 0, .int 0, .int 0, .int 0, .int (-1)]))) h0 (.inr (3, [.int nu, .ref po, .ref ki, .int fl, .int 0, .int 0, .int 0, .int (-1)]))) h0 = .inr (3, [.int nu, .ref po, .ref ki, .int fl, .int 0, .int 0, .int 0, .int (-1)]) := pu_s
  refine lv_aload_n hx hb dX0_init_30 rfl (lv_at hl 0 rfl) ?_
  refine lv_iload hx hb dX0_init_31 (lv_at hl 5 rfl) ?_
  refine pm_putF (ci := 3) (v := .int fr) (ty := .int) (C := RX0) (T := TX0) (N := 8) hx hb hts hin_X0 tyX0 tyX0_ok nmX0 hown hw hq0 hf_5 rfl 4 (by decide) (hts (.fieldLink RX0 29 "Backdater$Change" "from" "I") (by decide +kernel)) (fun _ h9 => h9) rfl hin0 rfl (by decide +kernel) rfl rfl (Nat.le_of_ble_eq_true rfl) dX0_init_33 (fun H locs hw => ?_)
  have hf_6 : (va_up (va_up (va_up (va_up (va_up (va_up f h0 (.inr (3, [.int 0, .null, .null, .int 0, .int 0, .int 0, .int 0, .int (-1)]))) h0 (.inr (3, [.int nu, .null, .null, .int 0, .int 0, .int 0, .int 0, .int (-1)]))) h0 (.inr (3, [.int nu, .ref po, .null, .int 0, .int 0, .int 0, .int 0, .int (-1)]))) h0 (.inr (3, [.int nu, .ref po, .ref ki, .int 0, .int 0, .int 0, .int 0, .int (-1)]))) h0 (.inr (3, [.int nu, .ref po, .ref ki, .int fl, .int 0, .int 0, .int 0, .int (-1)]))) h0 (.inr (3, [.int nu, .ref po, .ref ki, .int fl, .int fr, .int 0, .int 0, .int (-1)]))) h0 = .inr (3, [.int nu, .ref po, .ref ki, .int fl, .int fr, .int 0, .int 0, .int (-1)]) := pu_s
  refine lv_aload_n hx hb dX0_init_36 rfl (lv_at hl 0 rfl) ?_
  refine lv_iload hx hb dX0_init_37 (lv_at hl 6 rfl) ?_
  refine pm_putF (ci := 3) (v := .int am) (ty := .int) (C := RX0) (T := TX0) (N := 8) hx hb hts hin_X0 tyX0 tyX0_ok nmX0 hown hw hq0 hf_6 rfl 5 (by decide) (hts (.fieldLink RX0 32 "Backdater$Change" "amount" "I") (by decide +kernel)) (fun _ h9 => h9) rfl hin0 rfl (by decide +kernel) rfl rfl (Nat.le_of_ble_eq_true rfl) dX0_init_39 (fun H locs hw => ?_)
  have hf_7 : (va_up (va_up (va_up (va_up (va_up (va_up (va_up f h0 (.inr (3, [.int 0, .null, .null, .int 0, .int 0, .int 0, .int 0, .int (-1)]))) h0 (.inr (3, [.int nu, .null, .null, .int 0, .int 0, .int 0, .int 0, .int (-1)]))) h0 (.inr (3, [.int nu, .ref po, .null, .int 0, .int 0, .int 0, .int 0, .int (-1)]))) h0 (.inr (3, [.int nu, .ref po, .ref ki, .int 0, .int 0, .int 0, .int 0, .int (-1)]))) h0 (.inr (3, [.int nu, .ref po, .ref ki, .int fl, .int 0, .int 0, .int 0, .int (-1)]))) h0 (.inr (3, [.int nu, .ref po, .ref ki, .int fl, .int fr, .int 0, .int 0, .int (-1)]))) h0 (.inr (3, [.int nu, .ref po, .ref ki, .int fl, .int fr, .int am, .int 0, .int (-1)]))) h0 = .inr (3, [.int nu, .ref po, .ref ki, .int fl, .int fr, .int am, .int 0, .int (-1)]) := pu_s
  refine lv_aload_n hx hb dX0_init_42 rfl (lv_at hl 0 rfl) ?_
  refine lv_iload hx hb dX0_init_43 (lv_at hl 7 rfl) ?_
  refine pm_putF (ci := 3) (v := .int to) (ty := .int) (C := RX0) (T := TX0) (N := 8) hx hb hts hin_X0 tyX0 tyX0_ok nmX0 hown hw hq0 hf_7 rfl 6 (by decide) (hts (.fieldLink RX0 35 "Backdater$Change" "toldOn" "I") (by decide +kernel)) (fun _ h9 => h9) rfl hin0 rfl (by decide +kernel) rfl rfl (Nat.le_of_ble_eq_true rfl) dX0_init_45 (fun H locs hw => ?_)
  have hf_8 : (va_up (va_up (va_up (va_up (va_up (va_up (va_up (va_up f h0 (.inr (3, [.int 0, .null, .null, .int 0, .int 0, .int 0, .int 0, .int (-1)]))) h0 (.inr (3, [.int nu, .null, .null, .int 0, .int 0, .int 0, .int 0, .int (-1)]))) h0 (.inr (3, [.int nu, .ref po, .null, .int 0, .int 0, .int 0, .int 0, .int (-1)]))) h0 (.inr (3, [.int nu, .ref po, .ref ki, .int 0, .int 0, .int 0, .int 0, .int (-1)]))) h0 (.inr (3, [.int nu, .ref po, .ref ki, .int fl, .int 0, .int 0, .int 0, .int (-1)]))) h0 (.inr (3, [.int nu, .ref po, .ref ki, .int fl, .int fr, .int 0, .int 0, .int (-1)]))) h0 (.inr (3, [.int nu, .ref po, .ref ki, .int fl, .int fr, .int am, .int 0, .int (-1)]))) h0 (.inr (3, [.int nu, .ref po, .ref ki, .int fl, .int fr, .int am, .int to, .int (-1)]))) h0 = .inr (3, [.int nu, .ref po, .ref ki, .int fl, .int fr, .int am, .int to, .int (-1)]) := pu_s
  exact pr_v hx hb hr hlocks hw ⟨Nat.le_of_ble_eq_true rfl, Nat.le_of_ble_eq_true rfl⟩ (by simp only [va_up_up]; rfl) dX0_init_48

def wsAL : List Cond := wsJxc12de_init_da8c8 ++ wsJx4a65c0
theorem gAL : GoodIn wsJx4a65c_init_da8c8 wsAL := goodIn_app gJx4a65c_init_da8c8_Jxc12de_init_da8c8 (goodIn_sub (by decide +kernel) (by decide +kernel))

set_option maxHeartbeats 4000000 in
set_option maxRecDepth 100000 in
theorem c_AC_init (l : Launch) (g : GE) (L : List Nat) (f : Nat → va_E)  (h0 : Nat) : Mv l yJxa1e45_init_da8c8 wsJxa1e45_init_da8c8 (rmH 0 0 0) g L f [.ref h0] (fun u => u = (L, f)) 0 0 := by
  intro sz
  refine Met.ofW (cc := cJxa1e45_init_da8c8) (maxL := 1) (ret := none) (by decide) rfl ?_
  intro p e s m args below meth c s₁ B hml hv
  obtain ⟨rfl, hv⟩ := hv
  have hx := B.exec
  have hb := B.bytes
  have hr := B.returns
  have hts := atoms_spec (ws := wsJxa1e45_init_da8c8) B.pre
  have hown : s.vm.findClass RJxa1e45 = some m.cls := findClass_of_methodNamed B.named
  have hlocks := B.notSynchronized
  have hin0 : meth.name = "<init>" := (name_of_methodNamed B.named B.method).1
  obtain ⟨rfl, hw, hs⟩ := pm_begin hv
  generalize va_A (va_pl L f) s.heap.size = A at hw hs ⊢
  have CF := (⟨hx, hb, hml, hown, hts⟩ : CallFix p m c cJxa1e45_init_da8c8 1 s _ wsJxa1e45_init_da8c8 RJxa1e45)
  have hl := lv_entry ([.ref h0]) (n := 1) (Nat.le_of_ble_eq_true rfl)
  rw [lg_entry_eq]
  generalize (lg_sl ([.ref h0]) ++ List.replicate (1 - (lg_sl ([.ref h0])).length) Slot.unset).toArray = ls at hl ⊢
  have hl : lv_has ls 1 [(0, .ref h0)] := hl
  refine lv_aload_n hx hb dJxa1e45_init_da8c8_0 rfl (lv_at hl 0 rfl) ?_
  refine W.objInit hx hb hown (hts (.methodLink RJxa1e45 1 objectInit) (by decide +kernel)) (hts (.instanceMethod objectInit) (by decide +kernel)) (hts (.code objectInit ⟨#[0xb1]⟩ 1 none) (by decide +kernel)) rfl (by rw [hml]; exact hl.1) rfl dJxa1e45_init_da8c8_1 (Nat.le_of_ble_eq_true rfl) (Nat.le_of_ble_eq_true rfl) ?_
  refine W.eq (g2 := F0 m 4 ls []) rfl ?_
  exact pr_v hx hb hr hlocks hw ⟨Nat.le_of_ble_eq_true rfl, Nat.le_of_ble_eq_true rfl⟩ (rfl) dJxa1e45_init_da8c8_4

theorem gALc : GoodIn wsAL wsJxa1e45_init_da8c8 := goodIn_sub (fun w h => List.mem_append_left _ ((gJxc12de_init_da8c8_Jxa1e45_init_da8c8 w h).1)) (by decide +kernel)

set_option maxHeartbeats 4000000 in
set_option maxRecDepth 100000 in
theorem c_AL_init (l : Launch) (g : GE) (L : List Nat) (f : Nat → va_E)  (h0 : Nat) (hq0 : h0 ∈ L) (hf0 : f h0 = .inr (2, [.int 0, .null, .int 0])) : Mv l yJxc12de_init_da8c8 wsAL (rmH 1 0 0) g L f [.ref h0] (fun u => u = (L, va_up f h0 (.inr (2, [.int 0, .null, .int 0])))) 0 0 := by
  intro sz
  refine Met.ofW (cc := cJxc12de_init_da8c8) (maxL := 1) (ret := none) (by decide) rfl ?_
  intro p e s m args below meth c s₁ B hml hv
  obtain ⟨rfl, hv⟩ := hv
  have hx := B.exec
  have hb := B.bytes
  have hr := B.returns
  have hts := atoms_spec (ws := wsAL) B.pre
  have hown : s.vm.findClass RJxc12de = some m.cls := findClass_of_methodNamed B.named
  have hlocks := B.notSynchronized
  have hin0 : meth.name = "<init>" := (name_of_methodNamed B.named B.method).1
  obtain ⟨rfl, hw, hs⟩ := pm_begin hv
  generalize va_A (va_pl L f) s.heap.size = A at hw hs ⊢
  have CF := (⟨hx, hb, hml, hown, hts⟩ : CallFix p m c cJxc12de_init_da8c8 1 s _ wsAL RJxc12de)
  have hin_Jx4a65c : ∀ w ∈ wsJx4a65c0, w ∈ wsAL := fun w h => List.mem_append_right _ h
  have hl := lv_entry ([.ref h0]) (n := 1) (Nat.le_of_ble_eq_true rfl)
  rw [lg_entry_eq]
  generalize (lg_sl ([.ref h0]) ++ List.replicate (1 - (lg_sl ([.ref h0])).length) Slot.unset).toArray = ls at hl ⊢
  have hl : lv_has ls 1 [(0, .ref h0)] := hl
  refine lv_aload_n hx hb dJxc12de_init_da8c8_0 rfl (lv_at hl 0 rfl) ?_
  refine pc_v hw (va_runI (As := []) (rest := []) CF (c_AC_init l g L _ h0 _) (cwI 0 hts gALc rfl rfl rfl (hts (.initialized RJxa1e45) (by decide +kernel)) (hts (.methodLink RJxc12de 1 yJxa1e45_init_da8c8) (by decide +kernel)) (hts (.instanceMethod yJxa1e45_init_da8c8) (by decide +kernel)) rfl (by decide +kernel) ⟨Nat.le_of_ble_eq_true rfl, Nat.le_of_ble_eq_true rfl⟩) (pm_preS hw hs) rfl rfl hl.1 rfl (lv_room (Nat.le_of_ble_eq_true rfl)) dJxc12de_init_da8c8_1 ⟨Nat.le_of_ble_eq_true rfl, Nat.le_of_ble_eq_true rfl⟩) (fun L1 f1 H locs hp hw => ?_)
  obtain rfl : _ = L1 := (congrArg Prod.fst hp).symm
  obtain rfl : _ = f1 := (congrArg Prod.snd hp).symm
  refine lv_aload_n hx hb dJxc12de_init_da8c8_4 rfl (lv_at hl 0 rfl) ?_
  refine lv_iconst (v := 0) hx hb dJxc12de_init_da8c8_5 (by decide) ?_
  refine pm_put (ci := 2) (v := .int 0) (ty := .int) (C := RJx4a65c) (T := TJx4a65c) (N := 3) hx hb hts hin_Jx4a65c tyJx4a65c tyJx4a65c_ok nmJx4a65c hown hw hq0 hf0 rfl 0 (by decide) (hts (.fieldLink RJxc12de 7 "java/util/AbstractList" "modCount" "I") (by decide +kernel)) (fun _ h9 => h9) rfl (by decide +kernel) rfl rfl (Nat.le_of_ble_eq_true rfl) dJxc12de_init_da8c8_6 (fun H locs hw => ?_)
  have hf_1 : (va_up f h0 (.inr (2, [.int 0, .null, .int 0]))) h0 = .inr (2, [.int 0, .null, .int 0]) := pu_s
  exact pr_v hx hb hr hlocks hw ⟨Nat.le_of_ble_eq_true rfl, Nat.le_of_ble_eq_true rfl⟩ (rfl) dJxc12de_init_da8c8_9

set_option maxHeartbeats 4000000 in
set_option maxRecDepth 100000 in
theorem c_List_init (l : Launch) (g : GE) (L : List Nat) (f : Nat → va_E)  (h0 : Nat) (hq0 : h0 ∈ L) (hf0 : f h0 = .inr (2, [.int 0, .null, .int 0])) : Mv l yJx4a65c_init_da8c8 wsJx4a65c_init_da8c8 (rmH 2 0 0) g L f [.ref h0] (fun u => u = (L, va_up f h0 (.inr (2, [.int 0, .ref (g.2.2 4), .int 0])))) 0 0 := by
  intro sz
  refine Met.ofW (cc := cJx4a65c_init_da8c8) (maxL := 1) (ret := none) (by decide) rfl ?_
  intro p e s m args below meth c s₁ B hml hv
  obtain ⟨rfl, hv⟩ := hv
  have hx := B.exec
  have hb := B.bytes
  have hr := B.returns
  have hts := atoms_spec (ws := wsJx4a65c_init_da8c8) B.pre
  have hown : s.vm.findClass RJx4a65c = some m.cls := findClass_of_methodNamed B.named
  have hlocks := B.notSynchronized
  have hin0 : meth.name = "<init>" := (name_of_methodNamed B.named B.method).1
  obtain ⟨rfl, hw, hs⟩ := pm_begin hv
  generalize va_A (va_pl L f) s.heap.size = A at hw hs ⊢
  have CF := (⟨hx, hb, hml, hown, hts⟩ : CallFix p m c cJx4a65c_init_da8c8 1 s _ wsJx4a65c_init_da8c8 RJx4a65c)
  have hin_Jx4a65c : ∀ w ∈ wsJx4a65c0, w ∈ wsJx4a65c_init_da8c8 := by decide +kernel
  have hl := lv_entry ([.ref h0]) (n := 1) (Nat.le_of_ble_eq_true rfl)
  rw [lg_entry_eq]
  generalize (lg_sl ([.ref h0]) ++ List.replicate (1 - (lg_sl ([.ref h0])).length) Slot.unset).toArray = ls at hl ⊢
  have hl : lv_has ls 1 [(0, .ref h0)] := hl
  refine lv_aload_n hx hb dJx4a65c_init_da8c8_0 rfl (lv_at hl 0 rfl) ?_
  refine pc_v hw (va_runI (As := []) (rest := []) CF (c_AL_init l g L _ h0 hq0 hf0 _) (cwI 0 hts gAL rfl rfl rfl (hts (.initialized RJxc12de) (by decide +kernel)) (hts (.methodLink RJx4a65c 1 yJxc12de_init_da8c8) (by decide +kernel)) (hts (.instanceMethod yJxc12de_init_da8c8) (by decide +kernel)) rfl (by decide +kernel) ⟨Nat.le_of_ble_eq_true rfl, Nat.le_of_ble_eq_true rfl⟩) (pm_preS hw hs) rfl rfl hl.1 rfl (lv_room (Nat.le_of_ble_eq_true rfl)) dJx4a65c_init_da8c8_1 ⟨Nat.le_of_ble_eq_true rfl, Nat.le_of_ble_eq_true rfl⟩) (fun L1 f1 H locs hp hw => ?_)
  obtain rfl : _ = L1 := (congrArg Prod.fst hp).symm
  obtain rfl : _ = f1 := (congrArg Prod.snd hp).symm
  have hf_1 : (va_up f h0 (.inr (2, [.int 0, .null, .int 0]))) h0 = .inr (2, [.int 0, .null, .int 0]) := pu_s
  refine lv_aload_n hx hb dJx4a65c_init_da8c8_4 rfl (lv_at hl 0 rfl) ?_
  refine va_gets (v := .ref (g.2.2 4)) hx hb hs.1.2.1.1 hw.2.2.2.1 hown (hts (.fieldLink RJx4a65c 39 "java/util/ArrayList" "DEFAULTCAPACITY_EMPTY_ELEMENTDATA" "[Ljava/lang/Object;") (by decide +kernel)) (fun _ h9 => h9) dJx4a65c_init_da8c8_5 ?_
  refine pm_put (ci := 2) (v := .ref (g.2.2 4)) (ty := .array (.object "java/lang/Object")) (C := RJx4a65c) (T := TJx4a65c) (N := 3) hx hb hts hin_Jx4a65c tyJx4a65c tyJx4a65c_ok nmJx4a65c hown hw hq0 hf_1 rfl 1 (by decide) (hts (.fieldLink RJx4a65c 9 "java/util/ArrayList" "elementData" "[Ljava/lang/Object;") (by decide +kernel)) (fun _ h9 => h9) rfl (by decide +kernel) rfl rfl (Nat.le_of_ble_eq_true rfl) dJx4a65c_init_da8c8_8 (fun H locs hw => ?_)
  have hf_2 : (va_up (va_up f h0 (.inr (2, [.int 0, .null, .int 0]))) h0 (.inr (2, [.int 0, .ref (g.2.2 4), .int 0]))) h0 = .inr (2, [.int 0, .ref (g.2.2 4), .int 0]) := pu_s
  exact pr_v hx hb hr hlocks hw ⟨Nat.le_of_ble_eq_true rfl, Nat.le_of_ble_eq_true rfl⟩ (by simp only [va_up_up]; rfl) dJx4a65c_init_da8c8_11

set_option maxHeartbeats 4000000 in
set_option maxRecDepth 100000 in
theorem c_Policy_init (l : Launch) (g : GE) (L : List Nat) (f : Nat → va_E)  (h0 : Nat) (ba : Int32) (hq0 : h0 ∈ L) (hf0 : f h0 = .inr (4, [.int 0, .null, .int 0])) : Mv l yX2_init wsX2_init (rmH 3 1 3) g L f [.ref h0, .int ba] (fun u => ∃ q, q ∉ L ∧ u = (L ++ [q], va_up (va_up f q (.inr (2, [.int 0, .ref (g.2.2 4), .int 0]))) h0 (.inr (4, [.int ba, .ref q, .int 0])))) 1 3 := by
  intro sz
  refine Met.ofW (cc := cX2_init) (maxL := 2) (ret := none) (by decide) rfl ?_
  intro p e s m args below meth c s₁ B hml hv
  obtain ⟨rfl, hv⟩ := hv
  have hx := B.exec
  have hb := B.bytes
  have hr := B.returns
  have hts := atoms_spec (ws := wsX2_init) B.pre
  have hown : s.vm.findClass RX2 = some m.cls := findClass_of_methodNamed B.named
  have hlocks := B.notSynchronized
  have hin0 : meth.name = "<init>" := (name_of_methodNamed B.named B.method).1
  obtain ⟨rfl, hw, hs⟩ := pm_begin hv
  generalize va_A (va_pl L f) s.heap.size = A at hw hs ⊢
  have CF := (⟨hx, hb, hml, hown, hts⟩ : CallFix p m c cX2_init 2 s _ wsX2_init RX2)
  have hin_X2 : ∀ w ∈ wsX20, w ∈ wsX2_init := by decide +kernel
  have hin_Jx4a65c : ∀ w ∈ wsJx4a65c0, w ∈ wsX2_init := by decide +kernel
  have hl := lv_entry ([.ref h0, .int ba]) (n := 2) (Nat.le_of_ble_eq_true rfl)
  rw [lg_entry_eq]
  generalize (lg_sl ([.ref h0, .int ba]) ++ List.replicate (2 - (lg_sl ([.ref h0, .int ba])).length) Slot.unset).toArray = ls at hl ⊢
  have hl : lv_has ls 2 [(0, .ref h0), (1, .int ba)] := hl
  refine lv_aload_n hx hb dX2_init_0 rfl (lv_at hl 0 rfl) ?_
  refine W.objInit hx hb hown (hts (.methodLink RX2 1 objectInit) (by decide +kernel)) (hts (.instanceMethod objectInit) (by decide +kernel)) (hts (.code objectInit ⟨#[0xb1]⟩ 1 none) (by decide +kernel)) rfl (by rw [hml]; exact hl.1) rfl dX2_init_1 (Nat.le_of_ble_eq_true rfl) (Nat.le_of_ble_eq_true rfl) ?_
  refine W.eq (g2 := F0 m 4 ls []) rfl ?_
  refine lv_aload_n hx hb dX2_init_4 rfl (lv_at hl 0 rfl) ?_
  refine pm_new (ci := 2) (fs := [.int 0, .null, .int 0]) (C := RJx4a65c) (T := TJx4a65c) (N := 3) hx hb hts hin_Jx4a65c tyJx4a65c tyJx4a65c_ok hown (hts (.classLink RX2 7 RJx4a65c) (by decide +kernel)) (hts (.instantiable RJx4a65c 3) (by decide +kernel)) (hts (.initialized RJx4a65c) (by decide +kernel)) hw rfl (fun j hj => by rcases (show j = 0 ∨ j = 1 ∨ j = 2 by omega) with rfl | rfl | rfl <;> rfl) (Nat.le_of_ble_eq_true rfl) (Nat.le_of_ble_eq_true rfl) dX2_init_5 (fun q_1 H hn_q_1 hw => ?_)
  have hf_2 : (va_up f q_1 (.inr (2, [.int 0, .null, .int 0]))) h0 = .inr (4, [.int 0, .null, .int 0]) := pu_n (fun e9 => hn_q_1 (e9 ▸ hq0)) hf0
  have hq_3 : h0 ∈ (L ++ [q_1]) := List.mem_append_left _ hq0
  have ne_4 : q_1 ≠ h0 := fun e9 => hn_q_1 (e9 ▸ hq0)
  have hf_5 : (va_up f q_1 (.inr (2, [.int 0, .null, .int 0]))) q_1 = .inr (2, [.int 0, .null, .int 0]) := pu_s
  have hq_6 : q_1 ∈ (L ++ [q_1]) := List.mem_append_right _ (by simp)
  refine lv_dup hx hb dX2_init_8 rfl ?_
  refine pc_v hw (va_runI (As := []) (rest := [.ref q_1, .ref h0]) CF (c_List_init l g (L ++ [q_1]) _ q_1 hq_6 hf_5 _) (cwI 0 hts gX2_init_Jx4a65c_init_da8c8 rfl rfl rfl (hts (.initialized RJx4a65c) (by decide +kernel)) (hts (.methodLink RX2 9 yJx4a65c_init_da8c8) (by decide +kernel)) (hts (.instanceMethod yJx4a65c_init_da8c8) (by decide +kernel)) rfl (by decide +kernel) ⟨Nat.le_of_ble_eq_true rfl, Nat.le_of_ble_eq_true rfl⟩) (pm_preS hw hs) rfl rfl hl.1 rfl (lv_room (Nat.le_of_ble_eq_true rfl)) dX2_init_9 ⟨Nat.le_of_ble_eq_true rfl, Nat.le_of_ble_eq_true rfl⟩) (fun L1 f1 H locs hp hw => ?_)
  obtain rfl : _ = L1 := (congrArg Prod.fst hp).symm
  obtain rfl : _ = f1 := (congrArg Prod.snd hp).symm
  have hf_7 : (va_up (va_up f q_1 (.inr (2, [.int 0, .null, .int 0]))) q_1 (.inr (2, [.int 0, .ref (g.2.2 4), .int 0]))) q_1 = .inr (2, [.int 0, .ref (g.2.2 4), .int 0]) := pu_s
  have hf_8 : (va_up (va_up f q_1 (.inr (2, [.int 0, .null, .int 0]))) q_1 (.inr (2, [.int 0, .ref (g.2.2 4), .int 0]))) h0 = .inr (4, [.int 0, .null, .int 0]) := pu_n ne_4.symm hf_2
  refine pm_putF (ci := 4) (v := .ref q_1) (ty := .object "java/util/List") (C := RX2) (T := TX2) (N := 3) hx hb hts hin_X2 tyX2 tyX2_ok nmX2 hown hw hq_3 hf_8 rfl 1 (by decide) (hts (.fieldLink RX2 10 "Backdater$Policy" "inOrder" "Ljava/util/List;") (by decide +kernel)) (fun _ h9 => h9) rfl hin0 rfl (by decide +kernel) rfl rfl (Nat.le_of_ble_eq_true rfl) dX2_init_12 (fun H locs hw => ?_)
  have hf_9 : (va_up (va_up (va_up f q_1 (.inr (2, [.int 0, .null, .int 0]))) q_1 (.inr (2, [.int 0, .ref (g.2.2 4), .int 0]))) h0 (.inr (4, [.int 0, .ref q_1, .int 0]))) h0 = .inr (4, [.int 0, .ref q_1, .int 0]) := pu_s
  have hf_10 : (va_up (va_up (va_up f q_1 (.inr (2, [.int 0, .null, .int 0]))) q_1 (.inr (2, [.int 0, .ref (g.2.2 4), .int 0]))) h0 (.inr (4, [.int 0, .ref q_1, .int 0]))) q_1 = .inr (2, [.int 0, .ref (g.2.2 4), .int 0]) := pu_n ne_4 hf_7
  refine lv_aload_n hx hb dX2_init_15 rfl (lv_at hl 0 rfl) ?_
  refine lv_iconst (v := 0) hx hb dX2_init_16 (by decide) ?_
  refine pm_put (ci := 4) (v := .int 0) (ty := .int) (C := RX2) (T := TX2) (N := 3) hx hb hts hin_X2 tyX2 tyX2_ok nmX2 hown hw hq_3 hf_9 rfl 2 (by decide) (hts (.fieldLink RX2 16 "Backdater$Policy" "billedSoFar" "I") (by decide +kernel)) (fun _ h9 => h9) rfl (by decide +kernel) rfl rfl (Nat.le_of_ble_eq_true rfl) dX2_init_17 (fun H locs hw => ?_)
  have hf_11 : (va_up (va_up (va_up (va_up f q_1 (.inr (2, [.int 0, .null, .int 0]))) q_1 (.inr (2, [.int 0, .ref (g.2.2 4), .int 0]))) h0 (.inr (4, [.int 0, .ref q_1, .int 0]))) h0 (.inr (4, [.int 0, .ref q_1, .int 0]))) h0 = .inr (4, [.int 0, .ref q_1, .int 0]) := pu_s
  have hf_12 : (va_up (va_up (va_up (va_up f q_1 (.inr (2, [.int 0, .null, .int 0]))) q_1 (.inr (2, [.int 0, .ref (g.2.2 4), .int 0]))) h0 (.inr (4, [.int 0, .ref q_1, .int 0]))) h0 (.inr (4, [.int 0, .ref q_1, .int 0]))) q_1 = .inr (2, [.int 0, .ref (g.2.2 4), .int 0]) := pu_n ne_4 hf_10
  refine lv_aload_n hx hb dX2_init_20 rfl (lv_at hl 0 rfl) ?_
  refine lv_iload_n hx hb dX2_init_21 rfl (lv_at hl 1 rfl) ?_
  refine pm_putF (ci := 4) (v := .int ba) (ty := .int) (C := RX2) (T := TX2) (N := 3) hx hb hts hin_X2 tyX2 tyX2_ok nmX2 hown hw hq_3 hf_11 rfl 0 (by decide) (hts (.fieldLink RX2 20 "Backdater$Policy" "base" "I") (by decide +kernel)) (fun _ h9 => h9) rfl hin0 rfl (by decide +kernel) rfl rfl (Nat.le_of_ble_eq_true rfl) dX2_init_22 (fun H locs hw => ?_)
  have hf_13 : (va_up (va_up (va_up (va_up (va_up f q_1 (.inr (2, [.int 0, .null, .int 0]))) q_1 (.inr (2, [.int 0, .ref (g.2.2 4), .int 0]))) h0 (.inr (4, [.int 0, .ref q_1, .int 0]))) h0 (.inr (4, [.int 0, .ref q_1, .int 0]))) h0 (.inr (4, [.int ba, .ref q_1, .int 0]))) h0 = .inr (4, [.int ba, .ref q_1, .int 0]) := pu_s
  have hf_14 : (va_up (va_up (va_up (va_up (va_up f q_1 (.inr (2, [.int 0, .null, .int 0]))) q_1 (.inr (2, [.int 0, .ref (g.2.2 4), .int 0]))) h0 (.inr (4, [.int 0, .ref q_1, .int 0]))) h0 (.inr (4, [.int 0, .ref q_1, .int 0]))) h0 (.inr (4, [.int ba, .ref q_1, .int 0]))) q_1 = .inr (2, [.int 0, .ref (g.2.2 4), .int 0]) := pu_n ne_4 hf_12
  exact pr_v hx hb hr hlocks hw ⟨Nat.le_of_ble_eq_true rfl, Nat.le_of_ble_eq_true rfl⟩ (⟨_, hn_q_1, by simp only [va_up_up]; rfl⟩) dX2_init_25

set_option maxHeartbeats 4000000 in
set_option maxRecDepth 100000 in
theorem c_Version_init (l : Launch) (g : GE) (L : List Nat) (f : Nat → va_E)  (h0 : Nat) (hq0 : h0 ∈ L) (hf0 : f h0 = .inr (6, [.null, .int 0])) : Mv l yX4_init wsX4_init (rmH 1 1 3) g L f [.ref h0] (fun u => ∃ q, q ∉ L ∧ u = (L ++ [q], va_up (va_up f q (.inl (g.2.1 0, 3, .inl (fun _ => 0)))) h0 (.inr (6, [.ref q, .int 1])))) 1 3 := by
  intro sz
  refine Met.ofW (cc := cX4_init) (maxL := 1) (ret := none) (by decide) rfl ?_
  intro p e s m args below meth c s₁ B hml hv
  obtain ⟨rfl, hv⟩ := hv
  have hx := B.exec
  have hb := B.bytes
  have hr := B.returns
  have hts := atoms_spec (ws := wsX4_init) B.pre
  have hown : s.vm.findClass RX4 = some m.cls := findClass_of_methodNamed B.named
  have hlocks := B.notSynchronized
  have hin0 : meth.name = "<init>" := (name_of_methodNamed B.named B.method).1
  obtain ⟨rfl, hw, hs⟩ := pm_begin hv
  generalize va_A (va_pl L f) s.heap.size = A at hw hs ⊢
  have CF := (⟨hx, hb, hml, hown, hts⟩ : CallFix p m c cX4_init 1 s _ wsX4_init RX4)
  have hin_X4 : ∀ w ∈ wsX40, w ∈ wsX4_init := by decide +kernel
  have hl := lv_entry ([.ref h0]) (n := 1) (Nat.le_of_ble_eq_true rfl)
  rw [lg_entry_eq]
  generalize (lg_sl ([.ref h0]) ++ List.replicate (1 - (lg_sl ([.ref h0])).length) Slot.unset).toArray = ls at hl ⊢
  have hl : lv_has ls 1 [(0, .ref h0)] := hl
  refine lv_aload_n hx hb dX4_init_0 rfl (lv_at hl 0 rfl) ?_
  refine W.objInit hx hb hown (hts (.methodLink RX4 3 objectInit) (by decide +kernel)) (hts (.instanceMethod objectInit) (by decide +kernel)) (hts (.code objectInit ⟨#[0xb1]⟩ 1 none) (by decide +kernel)) rfl (by rw [hml]; exact hl.1) rfl dX4_init_1 (Nat.le_of_ble_eq_true rfl) (Nat.le_of_ble_eq_true rfl) ?_
  refine W.eq (g2 := F0 m 4 ls []) rfl ?_
  refine lv_aload_n hx hb dX4_init_4 rfl (lv_at hl 0 rfl) ?_
  refine lv_iconst (v := 3) hx hb dX4_init_5 (by decide) ?_
  refine pm_newi (N' := 3) hx hb (hts (.arrayClass .int) (by decide +kernel)) hw (by decide) rfl (Nat.le_of_ble_eq_true rfl) (Nat.le_of_ble_eq_true rfl) (Nat.le_of_ble_eq_true rfl) dX4_init_6 (fun q_1 H hn_q_1 hw => ?_)
  have hf_2 : (va_up f q_1 (.inl (g.2.1 0, 3, .inl (fun _ => 0)))) h0 = .inr (6, [.null, .int 0]) := pu_n (fun e9 => hn_q_1 (e9 ▸ hq0)) hf0
  have hq_3 : h0 ∈ (L ++ [q_1]) := List.mem_append_left _ hq0
  have ne_4 : q_1 ≠ h0 := fun e9 => hn_q_1 (e9 ▸ hq0)
  have hf_5 : (va_up f q_1 (.inl (g.2.1 0, 3, .inl (fun _ => 0)))) q_1 = .inl (g.2.1 0, 3, .inl (fun _ => 0)) := pu_s
  have hq_6 : q_1 ∈ (L ++ [q_1]) := List.mem_append_right _ (by simp)
  refine pm_putF (ci := 6) (v := .ref q_1) (ty := .array .int) (C := RX4) (T := TX4) (N := 2) hx hb hts hin_X4 tyX4 tyX4_ok nmX4 hown hw hq_3 hf_2 rfl 0 (by decide) (hts (.fieldLink RX4 9 "Backdater$Version" "values" "[I") (by decide +kernel)) (fun _ h9 => h9) rfl hin0 rfl (by decide +kernel) rfl rfl (Nat.le_of_ble_eq_true rfl) dX4_init_8 (fun H locs hw => ?_)
  have hf_7 : (va_up (va_up f q_1 (.inl (g.2.1 0, 3, .inl (fun _ => 0)))) h0 (.inr (6, [.ref q_1, .int 0]))) h0 = .inr (6, [.ref q_1, .int 0]) := pu_s
  have hf_8 : (va_up (va_up f q_1 (.inl (g.2.1 0, 3, .inl (fun _ => 0)))) h0 (.inr (6, [.ref q_1, .int 0]))) q_1 = .inl (g.2.1 0, 3, .inl (fun _ => 0)) := pu_n ne_4 hf_5
  refine lv_aload_n hx hb dX4_init_11 rfl (lv_at hl 0 rfl) ?_
  refine lv_iconst (v := 1) hx hb dX4_init_12 (by decide) ?_
  refine pm_put (ci := 6) (v := .int 1) (ty := .boolean) (C := RX4) (T := TX4) (N := 2) hx hb hts hin_X4 tyX4 tyX4_ok nmX4 hown hw hq_3 hf_7 rfl 1 (by decide) (hts (.fieldLink RX4 15 "Backdater$Version" "covered" "Z") (by decide +kernel)) (fun _ h9 => h9) rfl (by decide +kernel) rfl rfl (Nat.le_of_ble_eq_true rfl) dX4_init_13 (fun H locs hw => ?_)
  have hf_9 : (va_up (va_up (va_up f q_1 (.inl (g.2.1 0, 3, .inl (fun _ => 0)))) h0 (.inr (6, [.ref q_1, .int 0]))) h0 (.inr (6, [.ref q_1, .int 1]))) h0 = .inr (6, [.ref q_1, .int 1]) := pu_s
  have hf_10 : (va_up (va_up (va_up f q_1 (.inl (g.2.1 0, 3, .inl (fun _ => 0)))) h0 (.inr (6, [.ref q_1, .int 0]))) h0 (.inr (6, [.ref q_1, .int 1]))) q_1 = .inl (g.2.1 0, 3, .inl (fun _ => 0)) := pu_n ne_4 hf_8
  exact pr_v hx hb hr hlocks hw ⟨Nat.le_of_ble_eq_true rfl, Nat.le_of_ble_eq_true rfl⟩ (⟨_, hn_q_1, by simp only [va_up_up]; rfl⟩) dX4_init_16

set_option maxHeartbeats 4000000 in
set_option maxRecDepth 100000 in
theorem c_Year_init (l : Launch) (g : GE) (L : List Nat) (f : Nat → va_E)  (h0 : Nat) (hq0 : h0 ∈ L) (hf0 : f h0 = .inr (7, [.null, .null])) : Mv l yX5_init wsX5_init (rmH 1 2 731) g L f [.ref h0] (fun u => ∃ q q2, q ∉ L ∧ q2 ∉ L ∧ q2 ≠ q ∧ u.1 = L ++ [q] ++ [q2] ∧ u.2 h0 = .inr (7, [.ref q, .ref q2]) ∧ u.2 q = .inl (g.2.1 0, 365, .inl (fun _ => 0)) ∧ u.2 q2 = .inl (g.2.1 0, 366, .inl (fun _ => 0)) ∧ ∀ b, b ∈ L → b ≠ h0 → u.2 b = f b) 2 731 := by
  intro sz
  refine Met.ofW (cc := cX5_init) (maxL := 1) (ret := none) (by decide) rfl ?_
  intro p e s m args below meth c s₁ B hml hv
  obtain ⟨rfl, hv⟩ := hv
  have hx := B.exec
  have hb := B.bytes
  have hr := B.returns
  have hts := atoms_spec (ws := wsX5_init) B.pre
  have hown : s.vm.findClass RX5 = some m.cls := findClass_of_methodNamed B.named
  have hlocks := B.notSynchronized
  have hin0 : meth.name = "<init>" := (name_of_methodNamed B.named B.method).1
  obtain ⟨rfl, hw, hs⟩ := pm_begin hv
  generalize va_A (va_pl L f) s.heap.size = A at hw hs ⊢
  have CF := (⟨hx, hb, hml, hown, hts⟩ : CallFix p m c cX5_init 1 s _ wsX5_init RX5)
  have hin_X5 : ∀ w ∈ wsX50, w ∈ wsX5_init := by decide +kernel
  have hl := lv_entry ([.ref h0]) (n := 1) (Nat.le_of_ble_eq_true rfl)
  rw [lg_entry_eq]
  generalize (lg_sl ([.ref h0]) ++ List.replicate (1 - (lg_sl ([.ref h0])).length) Slot.unset).toArray = ls at hl ⊢
  have hl : lv_has ls 1 [(0, .ref h0)] := hl
  refine lv_aload_n hx hb dX5_init_0 rfl (lv_at hl 0 rfl) ?_
  refine W.objInit hx hb hown (hts (.methodLink RX5 3 objectInit) (by decide +kernel)) (hts (.instanceMethod objectInit) (by decide +kernel)) (hts (.code objectInit ⟨#[0xb1]⟩ 1 none) (by decide +kernel)) rfl (by rw [hml]; exact hl.1) rfl dX5_init_1 (Nat.le_of_ble_eq_true rfl) (Nat.le_of_ble_eq_true rfl) ?_
  refine W.eq (g2 := F0 m 4 ls []) rfl ?_
  refine lv_aload_n hx hb dX5_init_4 rfl (lv_at hl 0 rfl) ?_
  refine lv_sipush (v := 365) hx hb dX5_init_5 (by decide) ?_
  refine pm_newi (N' := 365) hx hb (hts (.arrayClass .int) (by decide +kernel)) hw (by decide) rfl (Nat.le_of_ble_eq_true rfl) (Nat.le_of_ble_eq_true rfl) (Nat.le_of_ble_eq_true rfl) dX5_init_8 (fun q_1 H hn_q_1 hw => ?_)
  have hf_2 : (va_up f q_1 (.inl (g.2.1 0, 365, .inl (fun _ => 0)))) h0 = .inr (7, [.null, .null]) := pu_n (fun e9 => hn_q_1 (e9 ▸ hq0)) hf0
  have hq_3 : h0 ∈ (L ++ [q_1]) := List.mem_append_left _ hq0
  have ne_4 : q_1 ≠ h0 := fun e9 => hn_q_1 (e9 ▸ hq0)
  have hf_5 : (va_up f q_1 (.inl (g.2.1 0, 365, .inl (fun _ => 0)))) q_1 = .inl (g.2.1 0, 365, .inl (fun _ => 0)) := pu_s
  have hq_6 : q_1 ∈ (L ++ [q_1]) := List.mem_append_right _ (by simp)
  refine pm_putF (ci := 7) (v := .ref q_1) (ty := .array .int) (C := RX5) (T := TX5) (N := 2) hx hb hts hin_X5 tyX5 tyX5_ok nmX5 hown hw hq_3 hf_2 rfl 0 (by decide) (hts (.fieldLink RX5 9 "Backdater$Year" "rates" "[I") (by decide +kernel)) (fun _ h9 => h9) rfl hin0 rfl (by decide +kernel) rfl rfl (Nat.le_of_ble_eq_true rfl) dX5_init_10 (fun H locs hw => ?_)
  have hf_7 : (va_up (va_up f q_1 (.inl (g.2.1 0, 365, .inl (fun _ => 0)))) h0 (.inr (7, [.ref q_1, .null]))) h0 = .inr (7, [.ref q_1, .null]) := pu_s
  have hf_8 : (va_up (va_up f q_1 (.inl (g.2.1 0, 365, .inl (fun _ => 0)))) h0 (.inr (7, [.ref q_1, .null]))) q_1 = .inl (g.2.1 0, 365, .inl (fun _ => 0)) := pu_n ne_4 hf_5
  refine lv_aload_n hx hb dX5_init_13 rfl (lv_at hl 0 rfl) ?_
  refine lv_sipush (v := 366) hx hb dX5_init_14 (by decide) ?_
  refine pm_newi (N' := 366) hx hb (hts (.arrayClass .int) (by decide +kernel)) hw (by decide) rfl (Nat.le_of_ble_eq_true rfl) (Nat.le_of_ble_eq_true rfl) (Nat.le_of_ble_eq_true rfl) dX5_init_17 (fun q_9 H hn_q_9 hw => ?_)
  have hf_10 : (va_up (va_up (va_up f q_1 (.inl (g.2.1 0, 365, .inl (fun _ => 0)))) h0 (.inr (7, [.ref q_1, .null]))) q_9 (.inl (g.2.1 0, 366, .inl (fun _ => 0)))) h0 = .inr (7, [.ref q_1, .null]) := pu_n (fun e9 => hn_q_9 (e9 ▸ hq_3)) hf_7
  have hq_11 : h0 ∈ ((L ++ [q_1]) ++ [q_9]) := List.mem_append_left _ hq_3
  have ne_12 : q_9 ≠ h0 := fun e9 => hn_q_9 (e9 ▸ hq_3)
  have hf_13 : (va_up (va_up (va_up f q_1 (.inl (g.2.1 0, 365, .inl (fun _ => 0)))) h0 (.inr (7, [.ref q_1, .null]))) q_9 (.inl (g.2.1 0, 366, .inl (fun _ => 0)))) q_1 = .inl (g.2.1 0, 365, .inl (fun _ => 0)) := pu_n (fun e9 => hn_q_9 (e9 ▸ hq_6)) hf_8
  have hq_14 : q_1 ∈ ((L ++ [q_1]) ++ [q_9]) := List.mem_append_left _ hq_6
  have ne_15 : q_9 ≠ q_1 := fun e9 => hn_q_9 (e9 ▸ hq_6)
  have hf_16 : (va_up (va_up (va_up f q_1 (.inl (g.2.1 0, 365, .inl (fun _ => 0)))) h0 (.inr (7, [.ref q_1, .null]))) q_9 (.inl (g.2.1 0, 366, .inl (fun _ => 0)))) q_9 = .inl (g.2.1 0, 366, .inl (fun _ => 0)) := pu_s
  have hq_17 : q_9 ∈ ((L ++ [q_1]) ++ [q_9]) := List.mem_append_right _ (by simp)
  refine pm_putF (ci := 7) (v := .ref q_9) (ty := .array .int) (C := RX5) (T := TX5) (N := 2) hx hb hts hin_X5 tyX5 tyX5_ok nmX5 hown hw hq_11 hf_10 rfl 1 (by decide) (hts (.fieldLink RX5 15 "Backdater$Year" "sums" "[I") (by decide +kernel)) (fun _ h9 => h9) rfl hin0 rfl (by decide +kernel) rfl rfl (Nat.le_of_ble_eq_true rfl) dX5_init_19 (fun H locs hw => ?_)
  have hf_18 : (va_up (va_up (va_up (va_up f q_1 (.inl (g.2.1 0, 365, .inl (fun _ => 0)))) h0 (.inr (7, [.ref q_1, .null]))) q_9 (.inl (g.2.1 0, 366, .inl (fun _ => 0)))) h0 (.inr (7, [.ref q_1, .ref q_9]))) h0 = .inr (7, [.ref q_1, .ref q_9]) := pu_s
  have hf_19 : (va_up (va_up (va_up (va_up f q_1 (.inl (g.2.1 0, 365, .inl (fun _ => 0)))) h0 (.inr (7, [.ref q_1, .null]))) q_9 (.inl (g.2.1 0, 366, .inl (fun _ => 0)))) h0 (.inr (7, [.ref q_1, .ref q_9]))) q_1 = .inl (g.2.1 0, 365, .inl (fun _ => 0)) := pu_n ne_4 hf_13
  have hf_20 : (va_up (va_up (va_up (va_up f q_1 (.inl (g.2.1 0, 365, .inl (fun _ => 0)))) h0 (.inr (7, [.ref q_1, .null]))) q_9 (.inl (g.2.1 0, 366, .inl (fun _ => 0)))) h0 (.inr (7, [.ref q_1, .ref q_9]))) q_9 = .inl (g.2.1 0, 366, .inl (fun _ => 0)) := pu_n ne_12 hf_16
  exact pr_v hx hb hr hlocks hw ⟨Nat.le_of_ble_eq_true rfl, Nat.le_of_ble_eq_true rfl⟩ (⟨q_1, q_9, hn_q_1, fun e9 => hn_q_9 (List.mem_append_left _ e9), ne_15, rfl, hf_18, hf_19, hf_20, fun b hb h1 => pu_n h1 (pu_n (fun e9 => hn_q_9 (e9 ▸ List.mem_append_left _ hb)) (pu_n h1 (pu_n (fun e9 => hn_q_1 (e9 ▸ hb)) rfl)))⟩) dX5_init_22

end INIT
