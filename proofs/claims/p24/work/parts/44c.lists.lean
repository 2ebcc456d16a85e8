/-! lists: growing and adding -/
section LISTC
theorem cpy0 {rf : Nat → Option Nat} {n j : Nat} (h : j < n) : va_cpy rf (fun _ => none) 0 0 n j = rf j := by
  rw [va_cpy, if_pos ⟨Nat.zero_le _, by omega⟩]
  congr 1
  omega
theorem insT_end {rf rf' : Nat → Option Nat} {n v : Nat} (h : ∀ j, j < n → rf' j = rf j) : ∀ j, j < n + 1 → va_up rf' n (some v) j = insT rf n v j := by
  intro j hj
  by_cases e : j = n
  · subst e
    rw [pu_s, insT, if_neg (Nat.lt_irrefl _), if_pos rfl]
  · rw [pu_n e rfl, insT, if_pos (by omega)]
    exact h j (by omega)
theorem insT_cpy {rf rf' : Nat → Option Nat} {n p v : Nat} (hp : p ≤ n) (h : ∀ j, j < n → rf' j = rf j) : ∀ j, j < n + 1 → va_up (va_cpy rf' rf' p (p + 1) (n - p)) p (some v) j = insT rf p v j := by
  intro j hj
  by_cases e : j = p
  · subst e
    rw [pu_s, insT, if_neg (Nat.lt_irrefl _), if_pos rfl]
  · rw [pu_n e rfl, insT, va_cpy]
    by_cases h2 : j < p
    · rw [if_neg (by omega), if_pos h2]
      exact h j (by omega)
    · rw [if_pos (by omega), if_neg h2, if_neg e, ← h (j - 1) (by omega)]
      congr 1
      omega

set_option maxHeartbeats 4000000 in
set_option maxRecDepth 100000 in
theorem c_growR (l : Launch) (g : GE) (L : List Nat) (f : Nat → va_E)  (h0 ea n : Nat) (mc : Int32) (rf : Nat → Option Nat) (hq0 : h0 ∈ L) (hf0 : f h0 = .inr (2, [.int mc, .ref ea, .int (nI n)])) (hq1 : ea ∈ L) (hf1 : f ea = eO g n rf) (hn : 0 < n ∧ n ≤ 60) (hok : ∀ j, j < n → ∀ y, rf j = some y → okE L f y) : Mq l yJx4a65c_grow_92f84 wsJx4a65c_grow_92f84 (rmH 3 1 200) g L f [.ref h0, .int (nI (n + 1))] (fun r u => GrowP g L f h0 mc n rf r u) 1 200 := by
  intro sz
  refine Met.ofW (cc := cJx4a65c_grow_92f84) (maxL := 4) (ret := (some (.array (.object "java/lang/Object")))) (by decide) rfl ?_
  intro p e s m args below meth c s₁ B hml hv
  obtain ⟨rfl, hv⟩ := hv
  have hx := B.exec
  have hb := B.bytes
  have hr := B.returns
  have hts := atoms_spec (ws := wsJx4a65c_grow_92f84) B.pre
  have hown : s.vm.findClass RJx4a65c = some m.cls := findClass_of_methodNamed B.named
  have hlocks := B.notSynchronized
  obtain ⟨rfl, hw, hs⟩ := pm_begin hv
  generalize va_A (va_pl L f) s.heap.size = A at hw hs ⊢
  have CF := (⟨hx, hb, hml, hown, hts⟩ : CallFix p m c cJx4a65c_grow_92f84 4 s _ wsJx4a65c_grow_92f84 RJx4a65c)
  have hin_Jx4a65c : ∀ w ∈ wsJx4a65c0, w ∈ wsJx4a65c_grow_92f84 := by decide +kernel
  have hl := lv_entry ([.ref h0, .int (nI (n + 1))]) (n := 4) (Nat.le_of_ble_eq_true rfl)
  rw [lg_entry_eq]
  generalize (lg_sl ([.ref h0, .int (nI (n + 1))]) ++ List.replicate (4 - (lg_sl ([.ref h0, .int (nI (n + 1))])).length) Slot.unset).toArray = ls at hl ⊢
  have hl : lv_has ls 4 [(0, .ref h0), (1, .int (nI (n + 1)))] := hl
  refine lv_aload_n hx hb dJx4a65c_grow_92f84_0 rfl (lv_at hl 0 rfl) ?_
  refine pm_get (ci := 2) (v := .ref ea) (C := RJx4a65c) (T := TJx4a65c) (N := 3) hx hb hts hin_Jx4a65c hown hw hq0 hf0 rfl 1 (by decide) (hts (.fieldLink RJx4a65c 9 "java/util/ArrayList" "elementData" "[Ljava/lang/Object;") (by decide +kernel)) (fun _ h9 => h9) rfl dJx4a65c_grow_92f84_1 ?_
  refine pm_ilen (v := (Int32.ofNat n)) hx hb hw 2 hq1 hf1 rfl rfl dJx4a65c_grow_92f84_4 ?_
  refine lv_istore_n (lv' := [(2, .int (Int32.ofNat n)), (0, .ref h0), (1, .int (nI (n + 1)))]) hx hb dJx4a65c_grow_92f84_5 rfl hl (by decide) rfl (fun ls hl => ?_)
  refine lv_iload_n hx hb dJx4a65c_grow_92f84_6 rfl (lv_at hl 0 rfl) ?_
  refine lv_if_gt (tgt := 20) hx hb dJx4a65c_grow_92f84_7 (by decide) (fun c_7 => ?_) (fun c_7 => ?_)
  · refine lv_iload_n hx hb dJx4a65c_grow_92f84_20 rfl (lv_at hl 0 rfl) ?_
    refine lv_iload_n hx hb dJx4a65c_grow_92f84_21 rfl (lv_at hl 2 rfl) ?_
    refine lv_iload_n hx hb dJx4a65c_grow_92f84_22 rfl (lv_at hl 0 rfl) ?_
    refine lv_isub hx hb dJx4a65c_grow_92f84_23 ?_
    refine lv_iload_n hx hb dJx4a65c_grow_92f84_24 rfl (lv_at hl 0 rfl) ?_
    refine lv_iconst (v := 1) hx hb dJx4a65c_grow_92f84_25 (by decide) ?_
    refine lv_ishr hx hb dJx4a65c_grow_92f84_26 ?_
    rw [show Int32.ofNat n = nI n from rfl, nI_sub1, nI_half (by omega)]
    refine pc_i hw (va_runS (As := [.int (nI n), .int (nI 1), .int (nI (n / 2))]) (rest := []) CF (c_newLength l g L _ n 1 (n / 2) (by omega) (by decide) _) (va_cwS 3 hts gJx4a65c_grow_92f84_J8_newLength_cabcc rfl rfl rfl (by decide +kernel) ⟨Nat.le_of_ble_eq_true rfl, Nat.le_of_ble_eq_true rfl⟩) (pm_preS hw hs) rfl rfl hl.1 rfl (lv_room (Nat.le_of_ble_eq_true rfl)) dJx4a65c_grow_92f84_27 ⟨Nat.le_of_ble_eq_true rfl, Nat.le_of_ble_eq_true rfl⟩) (fun r L1 f1 H locs hp hw => ?_)
    obtain ⟨hE_27, hu⟩ := hp
    obtain rfl : _ = L1 := (congrArg Prod.fst hu).symm
    obtain rfl : _ = f1 := (congrArg Prod.snd hu).symm
    generalize r = r_27 at hE_27 ⊢
    subst hE_27
    refine lv_istore_n (lv' := [(3, .int (nI (n + if 1 < n / 2 then n / 2 else 1))), (2, .int (Int32.ofNat n)), (0, .ref h0), (1, .int (nI (n + 1)))]) hx hb dJx4a65c_grow_92f84_30 rfl hl (by decide) rfl (fun ls hl => ?_)
    refine lv_aload_n hx hb dJx4a65c_grow_92f84_31 rfl (lv_at hl 2 rfl) ?_
    refine lv_aload_n hx hb dJx4a65c_grow_92f84_32 rfl (lv_at hl 2 rfl) ?_
    refine pm_get (ci := 2) (v := .ref ea) (C := RJx4a65c) (T := TJx4a65c) (N := 3) hx hb hts hin_Jx4a65c hown hw hq0 hf0 rfl 1 (by decide) (hts (.fieldLink RJx4a65c 9 "java/util/ArrayList" "elementData" "[Ljava/lang/Object;") (by decide +kernel)) (fun _ h9 => h9) rfl dJx4a65c_grow_92f84_33 ?_
    refine lv_iload_n hx hb dJx4a65c_grow_92f84_36 rfl (lv_at hl 0 rfl) ?_
    have hm9 : n ≤ n + (if 1 < n / 2 then n / 2 else 1) ∧ n + (if 1 < n / 2 then n / 2 else 1) ≤ 200 := by split <;> omega
    refine pc_q hw (va_runS (As := [.ref ea, .int (nI (n + if 1 < n / 2 then n / 2 else 1))]) (rest := [.ref h0]) CF (c_copyOf l g L _ ea n (n + if 1 < n / 2 then n / 2 else 1) rf hq1 hf1 hm9 hok _) (va_cwS 2 hts gJx4a65c_grow_92f84_J7_copyOf_1904c rfl rfl rfl (by decide +kernel) ⟨Nat.le_of_ble_eq_true rfl, Nat.le_of_ble_eq_true rfl⟩) (pm_preS hw hs) rfl rfl hl.1 rfl (lv_room (Nat.le_of_ble_eq_true rfl)) dJx4a65c_grow_92f84_37 ⟨Nat.le_of_ble_eq_true rfl, Nat.le_of_ble_eq_true rfl⟩) (fun r L1 f1 H locs hp hw => ?_)
    obtain ⟨q, rfl, hqn, hu⟩ := hp
    obtain rfl : _ = L1 := (congrArg Prod.fst hu).symm
    obtain rfl : _ = f1 := (congrArg Prod.snd hu).symm
    have hf_h : va_up f q (eO g (n + if 1 < n / 2 then n / 2 else 1) (va_cpy rf (fun _ => none) 0 0 n)) h0 = .inr (2, [.int mc, .ref ea, .int (nI n)]) := pu_n (fun e9 => hqn (e9 ▸ hq0)) hf0
    have hq_h : h0 ∈ L ++ [q] := List.mem_append_left _ hq0
    refine lv_dup_x1 hx hb dJx4a65c_grow_92f84_40 rfl rfl ?_
    refine pm_put (ci := 2) (v := .ref q) (ty := .array (.object "java/lang/Object")) (C := RJx4a65c) (T := TJx4a65c) (N := 3) hx hb hts hin_Jx4a65c tyJx4a65c tyJx4a65c_ok nmJx4a65c hown hw hq_h hf_h rfl 1 (by decide) (hts (.fieldLink RJx4a65c 9 "java/util/ArrayList" "elementData" "[Ljava/lang/Object;") (by decide +kernel)) (fun _ h9 => h9) rfl (by decide +kernel) rfl rfl (Nat.le_of_ble_eq_true rfl) dJx4a65c_grow_92f84_41 (fun H locs hw => ?_)
    have hf_1 : (va_up (va_up f q (eO g (n + if 1 < n / 2 then n / 2 else 1) (va_cpy rf (fun _ => none) 0 0 n))) h0 (.inr (2, [.int mc, .ref q, .int (nI n)]))) h0 = .inr (2, [.int mc, .ref q, .int (nI n)]) := pu_s
    exact pr_r (v := q) hx hb hr hlocks (Or.inr ⟨_, rfl⟩) hw ⟨Nat.le_of_ble_eq_true rfl, Nat.le_of_ble_eq_true rfl⟩ (⟨q, _, _, rfl, hqn, ⟨by split <;> omega, by split <;> omega⟩, fun j hj => cpy0 hj, rfl⟩) dJx4a65c_grow_92f84_44
  · exact absurd (show nI n > 0 from nI_lt (a := 0) hn.1 (by omega)) c_7

set_option maxHeartbeats 4000000 in
set_option maxRecDepth 100000 in
theorem c_growF (l : Launch) (g : GE) (L : List Nat) (f : Nat → va_E)  (h0 : Nat) (mc : Int32) (rf : Nat → Option Nat) (hq0 : h0 ∈ L) (hf0 : f h0 = .inr (2, [.int mc, .ref (g.2.2 4), .int 0])) : Mq l yJx4a65c_grow_92f84 wsJx4a65c_grow_92f84 (rmH 3 1 200) g L f [.ref h0, .int (nI 1)] (fun r u => GrowP g L f h0 mc 0 rf r u) 1 200 := by
  intro sz
  refine Met.ofW (cc := cJx4a65c_grow_92f84) (maxL := 4) (ret := (some (.array (.object "java/lang/Object")))) (by decide) rfl ?_
  intro p e s m args below meth c s₁ B hml hv
  obtain ⟨rfl, hv⟩ := hv
  have hx := B.exec
  have hb := B.bytes
  have hr := B.returns
  have hts := atoms_spec (ws := wsJx4a65c_grow_92f84) B.pre
  have hown : s.vm.findClass RJx4a65c = some m.cls := findClass_of_methodNamed B.named
  have hlocks := B.notSynchronized
  obtain ⟨rfl, hw, hs⟩ := pm_begin hv
  generalize va_A (va_pl L f) s.heap.size = A at hw hs ⊢
  have CF := (⟨hx, hb, hml, hown, hts⟩ : CallFix p m c cJx4a65c_grow_92f84 4 s _ wsJx4a65c_grow_92f84 RJx4a65c)
  have hin_Jx4a65c : ∀ w ∈ wsJx4a65c0, w ∈ wsJx4a65c_grow_92f84 := by decide +kernel
  have hl := lv_entry ([.ref h0, .int (nI 1)]) (n := 4) (Nat.le_of_ble_eq_true rfl)
  rw [lg_entry_eq]
  generalize (lg_sl ([.ref h0, .int (nI 1)]) ++ List.replicate (4 - (lg_sl ([.ref h0, .int (nI 1)])).length) Slot.unset).toArray = ls at hl ⊢
  have hl : lv_has ls 4 [(0, .ref h0), (1, .int (nI 1))] := hl
  refine lv_aload_n hx hb dJx4a65c_grow_92f84_0 rfl (lv_at hl 0 rfl) ?_
  refine pm_get (ci := 2) (v := .ref (g.2.2 4)) (C := RJx4a65c) (T := TJx4a65c) (N := 3) hx hb hts hin_Jx4a65c hown hw hq0 hf0 rfl 1 (by decide) (hts (.fieldLink RJx4a65c 9 "java/util/ArrayList" "elementData" "[Ljava/lang/Object;") (by decide +kernel)) (fun _ h9 => h9) rfl dJx4a65c_grow_92f84_1 ?_
  refine va_tlen (v := 0) hx hb hs.1.2.1.2 hw.2.2.2.1 rfl dJx4a65c_grow_92f84_4 ?_
  refine lv_istore_n (lv' := [(2, .int 0), (0, .ref h0), (1, .int (nI 1))]) hx hb dJx4a65c_grow_92f84_5 rfl hl (by decide) rfl (fun ls hl => ?_)
  refine lv_iload_n hx hb dJx4a65c_grow_92f84_6 rfl (lv_at hl 0 rfl) ?_
  refine lv_if_gt (tgt := 20) hx hb dJx4a65c_grow_92f84_7 (by decide) (fun c_7 => ?_) (fun c_7 => ?_)
  · exact absurd c_7 (by decide)
  · refine lv_aload_n hx hb dJx4a65c_grow_92f84_10 rfl (lv_at hl 1 rfl) ?_
    refine pm_get (ci := 2) (v := .ref (g.2.2 4)) (C := RJx4a65c) (T := TJx4a65c) (N := 3) hx hb hts hin_Jx4a65c hown hw hq0 hf0 rfl 1 (by decide) (hts (.fieldLink RJx4a65c 9 "java/util/ArrayList" "elementData" "[Ljava/lang/Object;") (by decide +kernel)) (fun _ h9 => h9) rfl dJx4a65c_grow_92f84_11 ?_
    refine va_gets (v := .ref (g.2.2 4)) hx hb hs.1.2.1.1 hw.2.2.2.1 hown (hts (.fieldLink RJx4a65c 39 "java/util/ArrayList" "DEFAULTCAPACITY_EMPTY_ELEMENTDATA" "[Ljava/lang/Object;") (by decide +kernel)) (fun _ h9 => h9) dJx4a65c_grow_92f84_14 ?_
    refine lv_acmp_eq (rx := (some (g.2.2 4))) (ry := (some (g.2.2 4))) (tgt := 45) hx hb dJx4a65c_grow_92f84_17 (by decide) (fun c_17 => ?_) (fun c_17 => ?_)
    · refine lv_aload_n hx hb dJx4a65c_grow_92f84_45 rfl (lv_at hl 1 rfl) ?_
      refine lv_bipush (v := 10) hx hb dJx4a65c_grow_92f84_46 (by decide) ?_
      refine lv_iload_n hx hb dJx4a65c_grow_92f84_48 rfl (lv_at hl 2 rfl) ?_
      refine va_mmax hx hb (hml.trans hl.1.symm) hown (hts (.methodLink RJx4a65c 79 Lib.Math.max.name) (by decide +kernel)) (hts (.static Lib.Math.max.name) (by decide +kernel)) (hts (.initialized "java/lang/Math") (by decide +kernel)) (hts (.code Lib.Math.max.name Lib.Math.max.code 2 (some .int)) (by decide +kernel)) (Nat.le_of_ble_eq_true rfl) (Nat.le_of_ble_eq_true rfl) (Nat.le_of_ble_eq_true rfl) (Nat.le_of_ble_eq_true rfl) dJx4a65c_grow_92f84_49 ?_
      rw [show (if (10 : Int32) < nI 1 then nI 1 else 10) = nI 10 from rfl]
      refine pm_newq (N' := 10) hx hb hown (hts (.classLink RJx4a65c 7 "java/lang/Object") (by decide +kernel)) hs.2 hw (nI_pos (by omega)) (nI_clamp (by omega)) (by omega) (Nat.le_of_ble_eq_true rfl) (by show 0 + 10 ≤ 200; omega) dJx4a65c_grow_92f84_52 (fun q H hqn hw => ?_)
      refine W.widen (k := 1) (n := 200) (Nat.le_of_ble_eq_true rfl) (by omega) ?_
      have hf_1 : va_up f q (eO g 10 (fun _ => none)) h0 = .inr (2, [.int mc, .ref (g.2.2 4), .int 0]) := pu_n (fun e9 => hqn (e9 ▸ hq0)) hf0
      have hq_2 : h0 ∈ L ++ [q] := List.mem_append_left _ hq0
      have hf_3 : va_up f q (eO g 10 (fun _ => none)) q = eO g 10 (fun _ => none) := pu_s
      have hq_4 : q ∈ L ++ [q] := List.mem_append_right _ (List.mem_singleton.mpr rfl)
      refine lv_dup_x1 hx hb dJx4a65c_grow_92f84_55 rfl rfl ?_
      refine pm_put (ci := 2) (v := .ref q) (ty := .array (.object "java/lang/Object")) (C := RJx4a65c) (T := TJx4a65c) (N := 3) hx hb hts hin_Jx4a65c tyJx4a65c tyJx4a65c_ok nmJx4a65c hown hw hq_2 hf_1 rfl 1 (by decide) (hts (.fieldLink RJx4a65c 9 "java/util/ArrayList" "elementData" "[Ljava/lang/Object;") (by decide +kernel)) (fun _ h9 => h9) rfl (by decide +kernel) rfl rfl (Nat.le_of_ble_eq_true rfl) dJx4a65c_grow_92f84_56 (fun H locs hw => ?_)
      have hf_5 : (va_up (va_up f q (eO g 10 (fun _ => none))) h0 (.inr (2, [.int mc, .ref q, .int 0]))) h0 = .inr (2, [.int mc, .ref q, .int 0]) := pu_s
      have hf_6 : (va_up (va_up f q (eO g 10 (fun _ => none))) h0 (.inr (2, [.int mc, .ref q, .int 0]))) q = .inl (g.2.1 2, 10, .inr (.inr (.inr (.inr (fun _ => none))))) := pu_n (pm_ne hf_3 hf_1 (by simp)) hf_3
      exact pr_r (v := q) hx hb hr hlocks (Or.inr ⟨_, rfl⟩) hw ⟨Nat.le_of_ble_eq_true rfl, Nat.le_of_ble_eq_true rfl⟩ (⟨q, 10, fun _ => none, rfl, hqn, ⟨by omega, by omega⟩, fun j hj => absurd hj (Nat.not_lt_zero j), rfl⟩) dJx4a65c_grow_92f84_59
    · exact absurd rfl c_17

set_option maxHeartbeats 4000000 in
set_option maxRecDepth 100000 in
theorem c_grow0R (l : Launch) (g : GE) (L : List Nat) (f : Nat → va_E)  (h0 ea n : Nat) (mc : Int32) (rf : Nat → Option Nat) (hq0 : h0 ∈ L) (hf0 : f h0 = .inr (2, [.int mc, .ref ea, .int (nI n)])) (hq1 : ea ∈ L) (hf1 : f ea = eO g n rf) (hn : 0 < n ∧ n ≤ 60) (hok : ∀ j, j < n → ∀ y, rf j = some y → okE L f y) : Mq l yJx4a65c_grow_d5877 wsJx4a65c_grow_d5877 (rmH 4 1 200) g L f [.ref h0] (fun r u => GrowP g L f h0 mc n rf r u) 1 200 := by
  intro sz
  refine Met.ofW (cc := cJx4a65c_grow_d5877) (maxL := 1) (ret := (some (.array (.object "java/lang/Object")))) (by decide) rfl ?_
  intro p e s m args below meth c s₁ B hml hv
  obtain ⟨rfl, hv⟩ := hv
  have hx := B.exec
  have hb := B.bytes
  have hr := B.returns
  have hts := atoms_spec (ws := wsJx4a65c_grow_d5877) B.pre
  have hown : s.vm.findClass RJx4a65c = some m.cls := findClass_of_methodNamed B.named
  have hlocks := B.notSynchronized
  obtain ⟨rfl, hw, hs⟩ := pm_begin hv
  generalize va_A (va_pl L f) s.heap.size = A at hw hs ⊢
  have CF := (⟨hx, hb, hml, hown, hts⟩ : CallFix p m c cJx4a65c_grow_d5877 1 s _ wsJx4a65c_grow_d5877 RJx4a65c)
  have hin_Jx4a65c : ∀ w ∈ wsJx4a65c0, w ∈ wsJx4a65c_grow_d5877 := by decide +kernel
  have hl := lv_entry ([.ref h0]) (n := 1) (Nat.le_of_ble_eq_true rfl)
  rw [lg_entry_eq]
  generalize (lg_sl ([.ref h0]) ++ List.replicate (1 - (lg_sl ([.ref h0])).length) Slot.unset).toArray = ls at hl ⊢
  have hl : lv_has ls 1 [(0, .ref h0)] := hl
  refine lv_aload_n hx hb dJx4a65c_grow_d5877_0 rfl (lv_at hl 0 rfl) ?_
  refine lv_aload_n hx hb dJx4a65c_grow_d5877_1 rfl (lv_at hl 0 rfl) ?_
  refine pm_get (ci := 2) (v := .int (nI n)) (C := RJx4a65c) (T := TJx4a65c) (N := 3) hx hb hts hin_Jx4a65c hown hw hq0 hf0 rfl 2 (by decide) (hts (.fieldLink RJx4a65c 48 "java/util/ArrayList" "size" "I") (by decide +kernel)) (fun _ h9 => h9) rfl dJx4a65c_grow_d5877_2 ?_
  refine lv_iconst (v := 1) hx hb dJx4a65c_grow_d5877_5 (by decide) ?_
  refine lv_iadd hx hb dJx4a65c_grow_d5877_6 ?_
  rw [nI_1]
  refine pc_q hw (va_runV (As := [.int (nI (n + 1))]) (rest := []) CF (c_growR l g L _ h0 ea n mc rf hq0 hf0 hq1 hf1 hn hok _) (cwV 1 hts gJx4a65c_grow_d5877_Jx4a65c_grow_92f84 rfl rfl rfl (by decide +kernel) ⟨Nat.le_of_ble_eq_true rfl, Nat.le_of_ble_eq_true rfl⟩) (pm_preV hw hs (pm_recv hw hq0 hf0 rfl)) rfl rfl hl.1 rfl (lv_room (Nat.le_of_ble_eq_true rfl)) dJx4a65c_grow_d5877_7 ⟨Nat.le_of_ble_eq_true rfl, Nat.le_of_ble_eq_true rfl⟩) (fun r L1 f1 H locs hp hw => ?_)
  exact pr_q (v := r) hx hb hr hlocks (Or.inr ⟨_, rfl⟩) hw ⟨Nat.le_of_ble_eq_true rfl, Nat.le_of_ble_eq_true rfl⟩ (hp) dJx4a65c_grow_d5877_10

set_option maxHeartbeats 4000000 in
set_option maxRecDepth 100000 in
theorem c_grow0F (l : Launch) (g : GE) (L : List Nat) (f : Nat → va_E)  (h0 : Nat) (mc : Int32) (rf : Nat → Option Nat) (hq0 : h0 ∈ L) (hf0 : f h0 = .inr (2, [.int mc, .ref (g.2.2 4), .int 0])) : Mq l yJx4a65c_grow_d5877 wsJx4a65c_grow_d5877 (rmH 4 1 200) g L f [.ref h0] (fun r u => GrowP g L f h0 mc 0 rf r u) 1 200 := by
  intro sz
  refine Met.ofW (cc := cJx4a65c_grow_d5877) (maxL := 1) (ret := (some (.array (.object "java/lang/Object")))) (by decide) rfl ?_
  intro p e s m args below meth c s₁ B hml hv
  obtain ⟨rfl, hv⟩ := hv
  have hx := B.exec
  have hb := B.bytes
  have hr := B.returns
  have hts := atoms_spec (ws := wsJx4a65c_grow_d5877) B.pre
  have hown : s.vm.findClass RJx4a65c = some m.cls := findClass_of_methodNamed B.named
  have hlocks := B.notSynchronized
  obtain ⟨rfl, hw, hs⟩ := pm_begin hv
  generalize va_A (va_pl L f) s.heap.size = A at hw hs ⊢
  have CF := (⟨hx, hb, hml, hown, hts⟩ : CallFix p m c cJx4a65c_grow_d5877 1 s _ wsJx4a65c_grow_d5877 RJx4a65c)
  have hin_Jx4a65c : ∀ w ∈ wsJx4a65c0, w ∈ wsJx4a65c_grow_d5877 := by decide +kernel
  have hl := lv_entry ([.ref h0]) (n := 1) (Nat.le_of_ble_eq_true rfl)
  rw [lg_entry_eq]
  generalize (lg_sl ([.ref h0]) ++ List.replicate (1 - (lg_sl ([.ref h0])).length) Slot.unset).toArray = ls at hl ⊢
  have hl : lv_has ls 1 [(0, .ref h0)] := hl
  refine lv_aload_n hx hb dJx4a65c_grow_d5877_0 rfl (lv_at hl 0 rfl) ?_
  refine lv_aload_n hx hb dJx4a65c_grow_d5877_1 rfl (lv_at hl 0 rfl) ?_
  refine pm_get (ci := 2) (v := .int 0) (C := RJx4a65c) (T := TJx4a65c) (N := 3) hx hb hts hin_Jx4a65c hown hw hq0 hf0 rfl 2 (by decide) (hts (.fieldLink RJx4a65c 48 "java/util/ArrayList" "size" "I") (by decide +kernel)) (fun _ h9 => h9) rfl dJx4a65c_grow_d5877_2 ?_
  refine lv_iconst (v := 1) hx hb dJx4a65c_grow_d5877_5 (by decide) ?_
  refine lv_iadd hx hb dJx4a65c_grow_d5877_6 ?_
  rw [show (0 : Int32) + 1 = nI 1 from rfl]
  refine pc_q hw (va_runV (As := [.int (nI 1)]) (rest := []) CF (c_growF l g L _ h0 mc rf hq0 hf0 _) (cwV 1 hts gJx4a65c_grow_d5877_Jx4a65c_grow_92f84 rfl rfl rfl (by decide +kernel) ⟨Nat.le_of_ble_eq_true rfl, Nat.le_of_ble_eq_true rfl⟩) (pm_preV hw hs (pm_recv hw hq0 hf0 rfl)) rfl rfl hl.1 rfl (lv_room (Nat.le_of_ble_eq_true rfl)) dJx4a65c_grow_d5877_7 ⟨Nat.le_of_ble_eq_true rfl, Nat.le_of_ble_eq_true rfl⟩) (fun r L1 f1 H locs hp hw => ?_)
  exact pr_q (v := r) hx hb hr hlocks (Or.inr ⟨_, rfl⟩) hw ⟨Nat.le_of_ble_eq_true rfl, Nat.le_of_ble_eq_true rfl⟩ (hp) dJx4a65c_grow_d5877_10

set_option maxHeartbeats 4000000 in
set_option maxRecDepth 100000 in
theorem c_add3R (l : Launch) (g : GE) (L : List Nat) (f : Nat → va_E)  (h0 ea n : Nat) (mc : Int32) (rf : Nat → Option Nat) (hq0 : h0 ∈ L) (hf0 : f h0 = .inr (2, [.int mc, .ref ea, .int (nI n)])) (hq1 : ea ∈ L) (hf1 : f ea = eO g n rf) (hn : 0 < n ∧ n ≤ 60) (hok : ∀ j, j < n → ∀ y, rf j = some y → okE L f y) (v : Nat) (hvE : okE L f v) : Mv l yJx4a65c_add_72be8 wsJx4a65c_add_72be8 (rmH 5 1 200) g L f [.ref h0, .ref v, .ref ea, .int (nI n)] (fun u => AddP g L f h0 mc ea n (insT rf n v) u) 1 200 := by
  intro sz
  refine Met.ofW (cc := cJx4a65c_add_72be8) (maxL := 4) (ret := none) (by decide) rfl ?_
  intro p e s m args below meth c s₁ B hml hv
  obtain ⟨rfl, hv⟩ := hv
  have hx := B.exec
  have hb := B.bytes
  have hr := B.returns
  have hts := atoms_spec (ws := wsJx4a65c_add_72be8) B.pre
  have hown : s.vm.findClass RJx4a65c = some m.cls := findClass_of_methodNamed B.named
  have hlocks := B.notSynchronized
  obtain ⟨rfl, hw, hs⟩ := pm_begin hv
  generalize va_A (va_pl L f) s.heap.size = A at hw hs ⊢
  have CF := (⟨hx, hb, hml, hown, hts⟩ : CallFix p m c cJx4a65c_add_72be8 4 s _ wsJx4a65c_add_72be8 RJx4a65c)
  have hin_Jx4a65c : ∀ w ∈ wsJx4a65c0, w ∈ wsJx4a65c_add_72be8 := by decide +kernel
  have hl := lv_entry ([.ref h0, .ref v, .ref ea, .int (nI n)]) (n := 4) (Nat.le_of_ble_eq_true rfl)
  rw [lg_entry_eq]
  generalize (lg_sl ([.ref h0, .ref v, .ref ea, .int (nI n)]) ++ List.replicate (4 - (lg_sl ([.ref h0, .ref v, .ref ea, .int (nI n)])).length) Slot.unset).toArray = ls at hl ⊢
  have hl : lv_has ls 4 [(0, .ref h0), (1, .ref v), (2, .ref ea), (3, .int (nI n))] := hl
  refine lv_iload_n hx hb dJx4a65c_add_72be8_0 rfl (lv_at hl 3 rfl) ?_
  refine lv_aload_n hx hb dJx4a65c_add_72be8_1 rfl (lv_at hl 2 rfl) ?_
  refine pm_ilen (v := (Int32.ofNat n)) hx hb hw 2 hq1 hf1 rfl rfl dJx4a65c_add_72be8_2 ?_
  refine lv_icmp_ne (tgt := 11) hx hb dJx4a65c_add_72be8_3 (by decide) (fun c_3 => ?_) (fun c_3 => ?_)
  · exact absurd rfl c_3
  · refine lv_aload_n hx hb dJx4a65c_add_72be8_6 rfl (lv_at hl 0 rfl) ?_
    refine pc_q hw (va_runV (As := []) (rest := []) CF (c_grow0R l g L _ h0 ea n mc rf hq0 hf0 hq1 hf1 hn hok _) (cwV 0 hts gJx4a65c_add_72be8_Jx4a65c_grow_d5877 rfl rfl rfl (by decide +kernel) ⟨Nat.le_of_ble_eq_true rfl, Nat.le_of_ble_eq_true rfl⟩) (pm_preV hw hs (pm_recv hw hq0 hf0 rfl)) rfl rfl hl.1 rfl (lv_room (Nat.le_of_ble_eq_true rfl)) dJx4a65c_add_72be8_7 ⟨Nat.le_of_ble_eq_true rfl, Nat.le_of_ble_eq_true rfl⟩) (fun r L1 f1 H locs hp hw => ?_)
    obtain ⟨q, cap9, rf9, rfl, hqn, hc9, hr9, hu⟩ := hp
    obtain rfl : _ = L1 := (congrArg Prod.fst hu).symm
    obtain rfl : _ = f1 := (congrArg Prod.snd hu).symm
    have hne9 : q ≠ h0 := fun e9 => hqn (e9 ▸ hq0)
    have hf_h : (va_up (va_up f q (eO g cap9 rf9)) h0 (.inr (2, [.int mc, .ref q, .int (nI n)]))) h0 = .inr (2, [.int mc, .ref q, .int (nI n)]) := pu_s
    have hq_h : h0 ∈ L ++ [q] := List.mem_append_left _ hq0
    have hf_q : (va_up (va_up f q (eO g cap9 rf9)) h0 (.inr (2, [.int mc, .ref q, .int (nI n)]))) q = eO g cap9 rf9 := pu_n hne9 pu_s
    have hq_q : q ∈ L ++ [q] := List.mem_append_right _ (List.mem_singleton.mpr rfl)
    have ho_v := okE.up (e1 := .inr (2, [.int mc, .ref q, .int (nI n)])) (okE.more (e1 := eO g cap9 rf9) (hvE) hqn) (pu_n (fun e9 => hqn (e9 ▸ hq0)) hf0) (by intro i fs hi; rcases hi with rfl | rfl <;> simp)
    refine lv_astore_n (lv' := [(2, .ref q), (0, .ref h0), (1, .ref v), (3, .int (nI n))]) hx hb dJx4a65c_add_72be8_10 rfl hl (by decide) rfl (fun ls hl => ?_)
    refine lv_aload_n hx hb dJx4a65c_add_72be8_11 rfl (lv_at hl 0 rfl) ?_
    refine lv_iload_n hx hb dJx4a65c_add_72be8_12 rfl (lv_at hl 3 rfl) ?_
    refine lv_aload_n hx hb dJx4a65c_add_72be8_13 rfl (lv_at hl 2 rfl) ?_
    refine pm_aast (n := cap9) (r := rf9) hx hb hw hs.2 hq_q hf_q (ho_v) (j := n) (nI_clamp (by omega)) (vp_in_nI (by omega) (by omega)) dJx4a65c_add_72be8_14 (fun H locs hw => ?_)
    have hf_1 : (va_up (va_up (va_up f q (eO g cap9 rf9)) h0 (.inr (2, [.int mc, .ref q, .int (nI n)]))) q (.inl (g.2.1 2, cap9, .inr (.inr (.inr (.inr (va_up rf9 n (some v)))))))) q = .inl (g.2.1 2, cap9, .inr (.inr (.inr (.inr (va_up rf9 n (some v)))))) := pu_s
    have hf_2 : (va_up (va_up (va_up f q (eO g cap9 rf9)) h0 (.inr (2, [.int mc, .ref q, .int (nI n)]))) q (.inl (g.2.1 2, cap9, .inr (.inr (.inr (.inr (va_up rf9 n (some v)))))))) h0 = .inr (2, [.int mc, .ref q, .int (nI n)]) := pu_n (pm_ne hf_h hf_q (by simp)) hf_h
    have ho_3 := okE.up (e1 := .inl (g.2.1 2, cap9, .inr (.inr (.inr (.inr (va_up rf9 n (some v))))))) (ho_v) hf_q (by intro i fs hi; rcases hi with rfl | rfl <;> simp)
    refine lv_aload_n hx hb dJx4a65c_add_72be8_15 rfl (lv_at hl 1 rfl) ?_
    refine lv_iload_n hx hb dJx4a65c_add_72be8_16 rfl (lv_at hl 3 rfl) ?_
    refine lv_iconst (v := 1) hx hb dJx4a65c_add_72be8_17 (by decide) ?_
    refine lv_iadd hx hb dJx4a65c_add_72be8_18 ?_
    refine pm_put (ci := 2) (v := .int ((nI n) + 1)) (ty := .int) (C := RJx4a65c) (T := TJx4a65c) (N := 3) hx hb hts hin_Jx4a65c tyJx4a65c tyJx4a65c_ok nmJx4a65c hown hw hq_h hf_2 rfl 2 (by decide) (hts (.fieldLink RJx4a65c 48 "java/util/ArrayList" "size" "I") (by decide +kernel)) (fun _ h9 => h9) rfl (by decide +kernel) rfl rfl (Nat.le_of_ble_eq_true rfl) dJx4a65c_add_72be8_19 (fun H locs hw => ?_)
    have hf_4 : (va_up (va_up (va_up (va_up f q (eO g cap9 rf9)) h0 (.inr (2, [.int mc, .ref q, .int (nI n)]))) q (.inl (g.2.1 2, cap9, .inr (.inr (.inr (.inr (va_up rf9 n (some v)))))))) h0 (.inr (2, [.int mc, .ref q, .int ((nI n) + 1)]))) h0 = .inr (2, [.int mc, .ref q, .int ((nI n) + 1)]) := pu_s
    have hf_5 : (va_up (va_up (va_up (va_up f q (eO g cap9 rf9)) h0 (.inr (2, [.int mc, .ref q, .int (nI n)]))) q (.inl (g.2.1 2, cap9, .inr (.inr (.inr (.inr (va_up rf9 n (some v)))))))) h0 (.inr (2, [.int mc, .ref q, .int ((nI n) + 1)]))) q = .inl (g.2.1 2, cap9, .inr (.inr (.inr (.inr (va_up rf9 n (some v)))))) := pu_n (pm_ne hf_1 hf_2 (by simp)) hf_1
    have ho_6 := okE.up (e1 := .inr (2, [.int mc, .ref q, .int ((nI n) + 1)])) (ho_3) hf_2 (by intro i fs hi; rcases hi with rfl | rfl <;> simp)
    rw [nI_1] at hw
    exact pr_v hx hb hr hlocks hw ⟨Nat.le_of_ble_eq_true rfl, Nat.le_of_ble_eq_true rfl⟩ (⟨q, cap9, _, fun b hb => List.mem_append_left _ hb, pu_s, List.mem_append_right _ (List.mem_singleton.mpr rfl), pu_n hne9 (pu_s), hc9, insT_end hr9, fun b hb h1 h2 => pu_n h1 (pu_n h2 (pu_n h1 (pu_n (fun e9 => hqn (e9 ▸ hb)) rfl))), Or.inr hqn⟩) dJx4a65c_add_72be8_22

set_option maxHeartbeats 4000000 in
set_option maxRecDepth 100000 in
theorem c_add3F (l : Launch) (g : GE) (L : List Nat) (f : Nat → va_E)  (h0 : Nat) (mc : Int32) (rf : Nat → Option Nat) (hq0 : h0 ∈ L) (hf0 : f h0 = .inr (2, [.int mc, .ref (g.2.2 4), .int 0])) (v : Nat) (hvE : okE L f v) : Mv l yJx4a65c_add_72be8 wsJx4a65c_add_72be8 (rmH 5 1 200) g L f [.ref h0, .ref v, .ref (g.2.2 4), .int 0] (fun u => AddP g L f h0 mc (g.2.2 4) 0 (insT rf 0 v) u) 1 200 := by
  intro sz
  refine Met.ofW (cc := cJx4a65c_add_72be8) (maxL := 4) (ret := none) (by decide) rfl ?_
  intro p e s m args below meth c s₁ B hml hv
  obtain ⟨rfl, hv⟩ := hv
  have hx := B.exec
  have hb := B.bytes
  have hr := B.returns
  have hts := atoms_spec (ws := wsJx4a65c_add_72be8) B.pre
  have hown : s.vm.findClass RJx4a65c = some m.cls := findClass_of_methodNamed B.named
  have hlocks := B.notSynchronized
  obtain ⟨rfl, hw, hs⟩ := pm_begin hv
  generalize va_A (va_pl L f) s.heap.size = A at hw hs ⊢
  have CF := (⟨hx, hb, hml, hown, hts⟩ : CallFix p m c cJx4a65c_add_72be8 4 s _ wsJx4a65c_add_72be8 RJx4a65c)
  have hin_Jx4a65c : ∀ w ∈ wsJx4a65c0, w ∈ wsJx4a65c_add_72be8 := by decide +kernel
  have hl := lv_entry ([.ref h0, .ref v, .ref (g.2.2 4), .int 0]) (n := 4) (Nat.le_of_ble_eq_true rfl)
  rw [lg_entry_eq]
  generalize (lg_sl ([.ref h0, .ref v, .ref (g.2.2 4), .int 0]) ++ List.replicate (4 - (lg_sl ([.ref h0, .ref v, .ref (g.2.2 4), .int 0])).length) Slot.unset).toArray = ls at hl ⊢
  have hl : lv_has ls 4 [(0, .ref h0), (1, .ref v), (2, .ref (g.2.2 4)), (3, .int 0)] := hl
  refine lv_iload_n hx hb dJx4a65c_add_72be8_0 rfl (lv_at hl 3 rfl) ?_
  refine lv_aload_n hx hb dJx4a65c_add_72be8_1 rfl (lv_at hl 2 rfl) ?_
  refine va_tlen (v := 0) hx hb hs.1.2.1.2 hw.2.2.2.1 rfl dJx4a65c_add_72be8_2 ?_
  refine lv_icmp_ne (tgt := 11) hx hb dJx4a65c_add_72be8_3 (by decide) (fun c_3 => ?_) (fun c_3 => ?_)
  · exact absurd rfl c_3
  · refine lv_aload_n hx hb dJx4a65c_add_72be8_6 rfl (lv_at hl 0 rfl) ?_
    refine pc_q hw (va_runV (As := []) (rest := []) CF (c_grow0F l g L _ h0 mc rf hq0 hf0 _) (cwV 0 hts gJx4a65c_add_72be8_Jx4a65c_grow_d5877 rfl rfl rfl (by decide +kernel) ⟨Nat.le_of_ble_eq_true rfl, Nat.le_of_ble_eq_true rfl⟩) (pm_preV hw hs (pm_recv hw hq0 hf0 rfl)) rfl rfl hl.1 rfl (lv_room (Nat.le_of_ble_eq_true rfl)) dJx4a65c_add_72be8_7 ⟨Nat.le_of_ble_eq_true rfl, Nat.le_of_ble_eq_true rfl⟩) (fun r L1 f1 H locs hp hw => ?_)
    obtain ⟨q, cap9, rf9, rfl, hqn, hc9, hr9, hu⟩ := hp
    obtain rfl : _ = L1 := (congrArg Prod.fst hu).symm
    obtain rfl : _ = f1 := (congrArg Prod.snd hu).symm
    have hne9 : q ≠ h0 := fun e9 => hqn (e9 ▸ hq0)
    have hf_h : (va_up (va_up f q (eO g cap9 rf9)) h0 (.inr (2, [.int mc, .ref q, .int 0]))) h0 = .inr (2, [.int mc, .ref q, .int 0]) := pu_s
    have hq_h : h0 ∈ L ++ [q] := List.mem_append_left _ hq0
    have hf_q : (va_up (va_up f q (eO g cap9 rf9)) h0 (.inr (2, [.int mc, .ref q, .int 0]))) q = eO g cap9 rf9 := pu_n hne9 pu_s
    have hq_q : q ∈ L ++ [q] := List.mem_append_right _ (List.mem_singleton.mpr rfl)
    have ho_v := okE.up (e1 := .inr (2, [.int mc, .ref q, .int 0])) (okE.more (e1 := eO g cap9 rf9) (hvE) hqn) (pu_n (fun e9 => hqn (e9 ▸ hq0)) hf0) (by intro i fs hi; rcases hi with rfl | rfl <;> simp)
    refine lv_astore_n (lv' := [(2, .ref q), (0, .ref h0), (1, .ref v), (3, .int 0)]) hx hb dJx4a65c_add_72be8_10 rfl hl (by decide) rfl (fun ls hl => ?_)
    refine lv_aload_n hx hb dJx4a65c_add_72be8_11 rfl (lv_at hl 0 rfl) ?_
    refine lv_iload_n hx hb dJx4a65c_add_72be8_12 rfl (lv_at hl 3 rfl) ?_
    refine lv_aload_n hx hb dJx4a65c_add_72be8_13 rfl (lv_at hl 2 rfl) ?_
    refine pm_aast (n := cap9) (r := rf9) hx hb hw hs.2 hq_q hf_q (ho_v) (j := 0) (rfl) (by unfold vp_in; exact fun q => q.elim (by decide) (fun q => by have : (0 : Int32).toNatClampNeg = 0 := rfl; omega)) dJx4a65c_add_72be8_14 (fun H locs hw => ?_)
    have hf_1 : (va_up (va_up (va_up f q (eO g cap9 rf9)) h0 (.inr (2, [.int mc, .ref q, .int 0]))) q (.inl (g.2.1 2, cap9, .inr (.inr (.inr (.inr (va_up rf9 0 (some v)))))))) q = .inl (g.2.1 2, cap9, .inr (.inr (.inr (.inr (va_up rf9 0 (some v)))))) := pu_s
    have hf_2 : (va_up (va_up (va_up f q (eO g cap9 rf9)) h0 (.inr (2, [.int mc, .ref q, .int 0]))) q (.inl (g.2.1 2, cap9, .inr (.inr (.inr (.inr (va_up rf9 0 (some v)))))))) h0 = .inr (2, [.int mc, .ref q, .int 0]) := pu_n (pm_ne hf_h hf_q (by simp)) hf_h
    have ho_3 := okE.up (e1 := .inl (g.2.1 2, cap9, .inr (.inr (.inr (.inr (va_up rf9 0 (some v))))))) (ho_v) hf_q (by intro i fs hi; rcases hi with rfl | rfl <;> simp)
    refine lv_aload_n hx hb dJx4a65c_add_72be8_15 rfl (lv_at hl 1 rfl) ?_
    refine lv_iload_n hx hb dJx4a65c_add_72be8_16 rfl (lv_at hl 3 rfl) ?_
    refine lv_iconst (v := 1) hx hb dJx4a65c_add_72be8_17 (by decide) ?_
    refine lv_iadd hx hb dJx4a65c_add_72be8_18 ?_
    refine pm_put (ci := 2) (v := .int (0 + 1)) (ty := .int) (C := RJx4a65c) (T := TJx4a65c) (N := 3) hx hb hts hin_Jx4a65c tyJx4a65c tyJx4a65c_ok nmJx4a65c hown hw hq_h hf_2 rfl 2 (by decide) (hts (.fieldLink RJx4a65c 48 "java/util/ArrayList" "size" "I") (by decide +kernel)) (fun _ h9 => h9) rfl (by decide +kernel) rfl rfl (Nat.le_of_ble_eq_true rfl) dJx4a65c_add_72be8_19 (fun H locs hw => ?_)
    have hf_4 : (va_up (va_up (va_up (va_up f q (eO g cap9 rf9)) h0 (.inr (2, [.int mc, .ref q, .int 0]))) q (.inl (g.2.1 2, cap9, .inr (.inr (.inr (.inr (va_up rf9 0 (some v)))))))) h0 (.inr (2, [.int mc, .ref q, .int (0 + 1)]))) h0 = .inr (2, [.int mc, .ref q, .int (0 + 1)]) := pu_s
    have hf_5 : (va_up (va_up (va_up (va_up f q (eO g cap9 rf9)) h0 (.inr (2, [.int mc, .ref q, .int 0]))) q (.inl (g.2.1 2, cap9, .inr (.inr (.inr (.inr (va_up rf9 0 (some v)))))))) h0 (.inr (2, [.int mc, .ref q, .int (0 + 1)]))) q = .inl (g.2.1 2, cap9, .inr (.inr (.inr (.inr (va_up rf9 0 (some v)))))) := pu_n (pm_ne hf_1 hf_2 (by simp)) hf_1
    have ho_6 := okE.up (e1 := .inr (2, [.int mc, .ref q, .int (0 + 1)])) (ho_3) hf_2 (by intro i fs hi; rcases hi with rfl | rfl <;> simp)
    exact pr_v hx hb hr hlocks hw ⟨Nat.le_of_ble_eq_true rfl, Nat.le_of_ble_eq_true rfl⟩ (⟨q, cap9, _, fun b hb => List.mem_append_left _ hb, pu_s, List.mem_append_right _ (List.mem_singleton.mpr rfl), pu_n hne9 (pu_s), hc9, insT_end hr9, fun b hb h1 h2 => pu_n h1 (pu_n h2 (pu_n h1 (pu_n (fun e9 => hqn (e9 ▸ hb)) rfl))), Or.inr hqn⟩) dJx4a65c_add_72be8_22

set_option maxHeartbeats 4000000 in
set_option maxRecDepth 100000 in
theorem c_add3S (l : Launch) (g : GE) (L : List Nat) (f : Nat → va_E)  (h0 ea n cap : Nat) (mc : Int32) (rf : Nat → Option Nat) (hq0 : h0 ∈ L) (hf0 : f h0 = .inr (2, [.int mc, .ref ea, .int (nI n)])) (hq1 : ea ∈ L) (hf1 : f ea = eO g cap rf) (hn : n < cap ∧ cap ≤ 100) (hok : ∀ j, j < n → ∀ y, rf j = some y → okE L f y) (v : Nat) (hvE : okE L f v) : Mv l yJx4a65c_add_72be8 wsJx4a65c_add_72be8 (rmH 5 1 200) g L f [.ref h0, .ref v, .ref ea, .int (nI n)] (fun u => AddP g L f h0 mc ea n (insT rf n v) u) 1 200 := by
  intro sz
  refine Met.ofW (cc := cJx4a65c_add_72be8) (maxL := 4) (ret := none) (by decide) rfl ?_
  intro p e s m args below meth c s₁ B hml hv
  obtain ⟨rfl, hv⟩ := hv
  have hx := B.exec
  have hb := B.bytes
  have hr := B.returns
  have hts := atoms_spec (ws := wsJx4a65c_add_72be8) B.pre
  have hown : s.vm.findClass RJx4a65c = some m.cls := findClass_of_methodNamed B.named
  have hlocks := B.notSynchronized
  obtain ⟨rfl, hw, hs⟩ := pm_begin hv
  generalize va_A (va_pl L f) s.heap.size = A at hw hs ⊢
  have CF := (⟨hx, hb, hml, hown, hts⟩ : CallFix p m c cJx4a65c_add_72be8 4 s _ wsJx4a65c_add_72be8 RJx4a65c)
  have hin_Jx4a65c : ∀ w ∈ wsJx4a65c0, w ∈ wsJx4a65c_add_72be8 := by decide +kernel
  have hl := lv_entry ([.ref h0, .ref v, .ref ea, .int (nI n)]) (n := 4) (Nat.le_of_ble_eq_true rfl)
  rw [lg_entry_eq]
  generalize (lg_sl ([.ref h0, .ref v, .ref ea, .int (nI n)]) ++ List.replicate (4 - (lg_sl ([.ref h0, .ref v, .ref ea, .int (nI n)])).length) Slot.unset).toArray = ls at hl ⊢
  have hl : lv_has ls 4 [(0, .ref h0), (1, .ref v), (2, .ref ea), (3, .int (nI n))] := hl
  have hne8 : ea ≠ h0 := pm_ne hf1 hf0 (by simp)
  refine lv_iload_n hx hb dJx4a65c_add_72be8_0 rfl (lv_at hl 3 rfl) ?_
  refine lv_aload_n hx hb dJx4a65c_add_72be8_1 rfl (lv_at hl 2 rfl) ?_
  refine pm_ilen (v := (Int32.ofNat cap)) hx hb hw 2 hq1 hf1 rfl rfl dJx4a65c_add_72be8_2 ?_
  refine lv_icmp_ne (tgt := 11) hx hb dJx4a65c_add_72be8_3 (by decide) (fun c_3 => ?_) (fun c_3 => ?_)
  · refine lv_aload_n hx hb dJx4a65c_add_72be8_11 rfl (lv_at hl 2 rfl) ?_
    refine lv_iload_n hx hb dJx4a65c_add_72be8_12 rfl (lv_at hl 3 rfl) ?_
    refine lv_aload_n hx hb dJx4a65c_add_72be8_13 rfl (lv_at hl 1 rfl) ?_
    refine pm_aast (n := cap) (r := rf) hx hb hw hs.2 hq1 hf1 (hvE) (j := n) (nI_clamp (by omega)) (vp_in_nI (by omega) (by omega)) dJx4a65c_add_72be8_14 (fun H locs hw => ?_)
    have hf_1 : (va_up f ea (.inl (g.2.1 2, cap, .inr (.inr (.inr (.inr (va_up rf n (some v)))))))) ea = .inl (g.2.1 2, cap, .inr (.inr (.inr (.inr (va_up rf n (some v)))))) := pu_s
    have hf_2 : (va_up f ea (.inl (g.2.1 2, cap, .inr (.inr (.inr (.inr (va_up rf n (some v)))))))) h0 = .inr (2, [.int mc, .ref ea, .int (nI n)]) := pu_n (pm_ne hf0 hf1 (by simp)) hf0
    have ho_3 := okE.up (e1 := .inl (g.2.1 2, cap, .inr (.inr (.inr (.inr (va_up rf n (some v))))))) (hvE) hf1 (by intro i fs hi; rcases hi with rfl | rfl <;> simp)
    refine lv_aload_n hx hb dJx4a65c_add_72be8_15 rfl (lv_at hl 0 rfl) ?_
    refine lv_iload_n hx hb dJx4a65c_add_72be8_16 rfl (lv_at hl 3 rfl) ?_
    refine lv_iconst (v := 1) hx hb dJx4a65c_add_72be8_17 (by decide) ?_
    refine lv_iadd hx hb dJx4a65c_add_72be8_18 ?_
    refine pm_put (ci := 2) (v := .int ((nI n) + 1)) (ty := .int) (C := RJx4a65c) (T := TJx4a65c) (N := 3) hx hb hts hin_Jx4a65c tyJx4a65c tyJx4a65c_ok nmJx4a65c hown hw hq0 hf_2 rfl 2 (by decide) (hts (.fieldLink RJx4a65c 48 "java/util/ArrayList" "size" "I") (by decide +kernel)) (fun _ h9 => h9) rfl (by decide +kernel) rfl rfl (Nat.le_of_ble_eq_true rfl) dJx4a65c_add_72be8_19 (fun H locs hw => ?_)
    have hf_4 : (va_up (va_up f ea (.inl (g.2.1 2, cap, .inr (.inr (.inr (.inr (va_up rf n (some v)))))))) h0 (.inr (2, [.int mc, .ref ea, .int ((nI n) + 1)]))) h0 = .inr (2, [.int mc, .ref ea, .int ((nI n) + 1)]) := pu_s
    have hf_5 : (va_up (va_up f ea (.inl (g.2.1 2, cap, .inr (.inr (.inr (.inr (va_up rf n (some v)))))))) h0 (.inr (2, [.int mc, .ref ea, .int ((nI n) + 1)]))) ea = .inl (g.2.1 2, cap, .inr (.inr (.inr (.inr (va_up rf n (some v)))))) := pu_n (pm_ne hf_1 hf_2 (by simp)) hf_1
    have ho_6 := okE.up (e1 := .inr (2, [.int mc, .ref ea, .int ((nI n) + 1)])) (ho_3) hf_2 (by intro i fs hi; rcases hi with rfl | rfl <;> simp)
    rw [nI_1] at hw
    exact pr_v hx hb hr hlocks hw ⟨Nat.le_of_ble_eq_true rfl, Nat.le_of_ble_eq_true rfl⟩ (⟨ea, cap, _, fun b hb => hb, pu_s, hq1, pu_n hne8 pu_s, ⟨by omega, hn.2⟩, insT_end (fun j hj => rfl), fun b hb h1 h2 => pu_n h1 (pu_n h2 rfl), Or.inl ⟨rfl, hq1⟩⟩) dJx4a65c_add_72be8_22
  · exact absurd ((nI_eq (by omega) (by omega)).mp c_3) (by omega)

end LISTC
