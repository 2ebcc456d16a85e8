/-! the tariffs -/
section TARIFFS
def telG (b sr : Nat → Int32) (v : Int32) (fr i : Nat) : Nat → Int32 := fun d => if d < i ∧ fr ≤ d ∧ (sr d).toInt ≤ (fr : Int) then v else b d
theorem telG_0 (b sr : Nat → Int32) (v : Int32) (fr : Nat) : telG b sr v fr 0 = b := by
  funext d
  exact if_neg (fun h => absurd h.1 (Nat.not_lt_zero d))
theorem telG_at (b sr : Nat → Int32) (v : Int32) (fr i : Nat) : telG b sr v fr i i = b i := if_neg (fun h => absurd h.1 (Nat.lt_irrefl i))
theorem telG_t {b sr : Nat → Int32} {v : Int32} {fr i : Nat} (h1 : fr ≤ i) (h2 : (sr i).toInt ≤ (fr : Int)) : upd (telG b sr v fr i) i v = telG b sr v fr (i + 1) := by
  funext d
  by_cases hd : d = i
  · subst hd
    rw [upd, if_pos rfl, telG, if_pos ⟨by omega, h1, h2⟩]
  · rw [upd, if_neg hd, telG, telG]
    have e : (d < i ∧ fr ≤ d ∧ (sr d).toInt ≤ (fr : Int)) ↔ (d < i + 1 ∧ fr ≤ d ∧ (sr d).toInt ≤ (fr : Int)) := by constructor <;> (rintro ⟨h1, h2, h3⟩; exact ⟨by omega, h2, h3⟩)
    by_cases hc : d < i ∧ fr ≤ d ∧ (sr d).toInt ≤ (fr : Int)
    · rw [if_pos hc, if_pos (e.mp hc)]
    · rw [if_neg hc, if_neg (fun q => hc (e.mpr q))]
theorem telG_f {b sr : Nat → Int32} {v : Int32} {fr i : Nat} (h : ¬ (fr ≤ i ∧ (sr i).toInt ≤ (fr : Int))) : telG b sr v fr i = telG b sr v fr (i + 1) := by
  funext d
  rw [telG, telG]
  by_cases hd : d = i
  · subst hd
    rw [if_neg (fun q => h q.2), if_neg (fun q => h q.2)]
  · have e : (d < i ∧ fr ≤ d ∧ (sr d).toInt ≤ (fr : Int)) ↔ (d < i + 1 ∧ fr ≤ d ∧ (sr d).toInt ≤ (fr : Int)) := by constructor <;> (rintro ⟨h1, h2, h3⟩; exact ⟨by omega, h2, h3⟩)
    by_cases hc : d < i ∧ fr ≤ d ∧ (sr d).toInt ≤ (fr : Int)
    · rw [if_pos hc, if_pos (e.mp hc)]
    · rw [if_neg hc, if_neg (fun q => hc (e.mpr q))]
theorem va_up_comm {α : Type} (f : Nat → α) {c c' : Nat} (h : c ≠ c') (x y : α) : va_up (va_up f c x) c' y = va_up (va_up f c' y) c x := by
  funext j
  by_cases h1 : j = c
  · subst h1
    rw [pu_n h pu_s, pu_s]
  · by_cases h2 : j = c'
    · subst h2
      rw [pu_s, pu_n h1 pu_s]
    · rw [pu_n h2 (pu_n h1 rfl), pu_n h1 (pu_n h2 rfl)]
theorem kV_4 (k : KS) {c c' : Nat} (h : c ≠ c') (x y x' y' : Nat → Int32) : kV (kV (kV (kV k c x) c' y) c x') c' y' = kV (kV k c x') c' y' := by
  show (va_up (va_up (va_up (va_up k.1 c x) c' y) c x') c' y', k.2) = (va_up (va_up k.1 c x') c' y', k.2)
  rw [va_up_comm k.1 h x y, va_up_up (va_up k.1 c' y) c x x', va_up_comm k.1 h.symm y x', va_up_up]
theorem nI_T {n : Nat} (h : n < 2 ^ 31) : (nI n).toInt = (n : Int) := nI_toInt h

set_option maxHeartbeats 4000000 in
set_option maxRecDepth 100000 in
theorem c_tell0 (l : Launch) (g : GE) (L : List Nat) (f : Nat → va_E) (a : Nat → Nat) (k : KS) (hk : CW g a k L f) (w : Int32) (fr : Nat) (hfr : fr < 365) : Mv l yX3_tell wsX3_tell (rmH 1 0 0) g L f [.ref (a 3), .int 0, .int w, .int (nI fr)] (fun u => u.1 = L ∧ CW g a (kW (kV (kV k 4 (telG (k.1 4) (k.1 7) w fr 365)) 7 (telG (k.1 7) (k.1 7) (nI fr) fr 365)) 0 1 (k.1 0 1 + 1)) L u.2) 0 0 := by
  intro sz
  refine Met.ofW (cc := cX3_tell) (maxL := 5) (ret := none) (by decide) rfl ?_
  intro p e s m args below meth c s₁ B hml hv
  obtain ⟨rfl, hv⟩ := hv
  have hx := B.exec
  have hb := B.bytes
  have hr := B.returns
  have hts := atoms_spec (ws := wsX3_tell) B.pre
  have hown : s.vm.findClass RX3 = some m.cls := findClass_of_methodNamed B.named
  have hlocks := B.notSynchronized
  obtain ⟨rfl, hw, hs⟩ := pm_begin hv
  generalize va_A (va_pl L f) s.heap.size = A at hw hs ⊢
  have CF := (⟨hx, hb, hml, hown, hts⟩ : CallFix p m c cX3_tell 5 s _ wsX3_tell RX3)
  have hin_X3 : ∀ w ∈ wsX30, w ∈ wsX3_tell := by decide +kernel
  have hl := lv_entry ([.ref (a 3), .int 0, .int w, .int (nI fr)]) (n := 5) (Nat.le_of_ble_eq_true rfl)
  rw [lg_entry_eq]
  generalize (lg_sl ([.ref (a 3), .int 0, .int w, .int (nI fr)]) ++ List.replicate (5 - (lg_sl ([.ref (a 3), .int 0, .int w, .int (nI fr)])).length) Slot.unset).toArray = ls at hl ⊢
  have hl : lv_has ls 5 [(0, .ref (a 3)), (1, .int 0), (2, .int w), (3, .int (nI fr))] := hl
  refine lv_iload_n hx hb dX3_tell_0 rfl (lv_at hl 1 rfl) ?_
  refine pc_i hw (va_runSN (As := [.int 0]) (rest := []) CF ((c_isField l g L _ 0) _) ⟨va_cnB 1 hts gX3_tell_X6_isField_n29 rfl rfl rfl (hs.2.2.2.2.2.1 (RX3, 29, yX6_isField) (by decide +kernel)) (hts (.initialized RX6) (by decide +kernel)) (by decide +kernel) ⟨Nat.le_of_ble_eq_true rfl, Nat.le_of_ble_eq_true rfl⟩, hts (.static yX6_isField) (by decide +kernel), trivial⟩ (pm_preS hw hs) rfl rfl hl.1 rfl (lv_room (Nat.le_of_ble_eq_true rfl)) dX3_tell_1 ⟨Nat.le_of_ble_eq_true rfl, Nat.le_of_ble_eq_true rfl⟩) (fun r L1 f1 H locs hp hw => ?_)
  obtain ⟨hE_1, hu⟩ := hp
  obtain rfl : _ = L1 := (congrArg Prod.fst hu).symm
  obtain rfl : _ = f1 := (congrArg Prod.snd hu).symm
  generalize r = r_1 at hE_1 ⊢
  refine lv_if_ne (tgt := 8) hx hb dX3_tell_4 (by decide) (fun c_4 => ?_) (fun c_4 => ?_)
  · refine lv_iconst (v := 0) hx hb dX3_tell_8 (by decide) ?_
    refine lv_istore (lv' := [(4, .int 0), (0, .ref (a 3)), (1, .int 0), (2, .int w), (3, .int (nI fr))]) hx hb dX3_tell_9 hl (by decide) rfl (fun ls hl => ?_)
    have hk : CW g a (kV (kV k 4 (telG (k.1 4) (k.1 7) w fr 0)) 7 (telG (k.1 7) (k.1 7) (nI fr) fr 0)) L f := by rw [telG_0, telG_0, kV_id, kV_id]; exact hk
    refine W_loop (σ := Nat) (fun i H locs ls => ∃ f1 : Nat → va_E, (i ≤ 365) ∧ CW g a (kV (kV k 4 (telG (k.1 4) (k.1 7) w fr i)) 7 (telG (k.1 7) (k.1 7) (nI fr) fr i)) L f1 ∧ PW g A s H locs L f1 ∧ lv_has ls 5 [(4, .int (nI i)), (0, .ref (a 3)), (1, .int 0), (2, .int w), (3, .int (nI fr))]) (fun i => 365 - i) 0 ⟨_, Nat.zero_le _, hk, hw, lv_sub hl [0, 1, 2, 3, 4] rfl⟩ ?_
    rintro i H locs ls ⟨f1, hi9, hk, hw, hl⟩ ih_11
    refine lv_iload hx hb dX3_tell_11 (lv_at hl 0 rfl) ?_
    refine lv_sipush (v := 365) hx hb dX3_tell_13 (by decide) ?_
    refine lv_icmp_ge (tgt := 64) hx hb dX3_tell_16 (by decide) (fun c_16 => ?_) (fun c_16 => ?_)
    · have hi5 : i = 365 := by rw [show (365 : Int32) = nI 365 from rfl, nI_leI (by decide) (by omega)] at c_16; omega
      refine lv_aload_n hx hb dX3_tell_64 rfl (lv_at hl 1 rfl) ?_
      refine lv_dup hx hb dX3_tell_65 rfl ?_
      refine pm_get (ci := 5) (v := .int (k.1 0 1)) (C := RX3) (T := TX3) (N := 3) hx hb hts hin_X3 hown hw (hk.q (i := 3) (dC (by decide))) (hk.f (i := 3) (dC (by decide))) rfl 2 (by decide) (hts (.fieldLink RX3 19 "Backdater$Tariffs" "count" "I") (by decide +kernel)) (fun _ h9 => h9) rfl dX3_tell_66 ?_
      refine lv_iconst (v := 1) hx hb dX3_tell_69 (by decide) ?_
      refine lv_iadd hx hb dX3_tell_70 ?_
      refine pm_put (ci := 5) (v := .int ((k.1 0 1) + 1)) (ty := .int) (C := RX3) (T := TX3) (N := 3) hx hb hts hin_X3 tyX3 tyX3_ok nmX3 hown hw (hk.q (i := 3) (dC (by decide))) (hk.f (i := 3) (dC (by decide))) rfl 2 (by decide) (hts (.fieldLink RX3 19 "Backdater$Tariffs" "count" "I") (by decide +kernel)) (fun _ h9 => h9) rfl (by decide +kernel) rfl rfl (Nat.le_of_ble_eq_true rfl) dX3_tell_71 (fun H locs hw => ?_)
      have hk := hk.tc ((k.1 0 1) + 1)
      exact pr_v hx hb hr hlocks hw ⟨Nat.le_of_ble_eq_true rfl, Nat.le_of_ble_eq_true rfl⟩ (⟨rfl, by rw [hi5] at hk; exact hk⟩) dX3_tell_74
    · have hi : i < 365 := by rw [show (365 : Int32) = nI 365 from rfl, nI_leI (by decide) (by omega)] at c_16; omega
      refine lv_iload_n hx hb dX3_tell_19 rfl (lv_at hl 4 rfl) ?_
      refine lv_iload hx hb dX3_tell_20 (lv_at hl 0 rfl) ?_
      refine lv_icmp_gt (tgt := 58) hx hb dX3_tell_22 (by decide) (fun c_22 => ?_) (fun c_22 => ?_)
      · have hno : ¬ (fr ≤ i ∧ (k.1 7 i).toInt ≤ (fr : Int)) := fun q => by rw [i32_lt, nI_T (by omega), nI_T (by omega)] at c_22; have := q.1; omega
        refine lv_iinc (v := (nI (i + 1))) (lv' := [(4, .int (nI (i + 1))), (0, .ref (a 3)), (1, .int 0), (2, .int w), (3, .int (nI fr))]) hx hb dX3_tell_58 hl (k := 0) rfl (nI_1 i) (by decide) rfl (fun ls hl => ?_)
        refine lv_goto (tgt := 11) hx hb dX3_tell_61 (by decide) ?_
        rw [telG_f (b := k.1 4) (v := w) hno, telG_f (b := k.1 7) (v := nI fr) hno] at hk
        exact ih_11 (i + 1) _ _ _ (by omega) ⟨_, by omega, hk, hw, lv_sub hl [0, 1, 2, 3, 4] rfl⟩
      · have hge : fr ≤ i := by rw [i32_lt, nI_T (by omega), nI_T (by omega)] at c_22; omega
        refine lv_iload_n hx hb dX3_tell_25 rfl (lv_at hl 4 rfl) ?_
        refine lv_aload_n hx hb dX3_tell_26 rfl (lv_at hl 1 rfl) ?_
        refine pm_get (ci := 5) (v := .ref (a 7)) (C := RX3) (T := TX3) (N := 3) hx hb hts hin_X3 hown hw (hk.q (i := 3) (dC (by decide))) (hk.f (i := 3) (dC (by decide))) rfl 1 (by decide) (hts (.fieldLink RX3 16 "Backdater$Tariffs" "since" "[[I") (by decide +kernel)) (fun _ h9 => h9) rfl dX3_tell_27 ?_
        refine lv_iload_n hx hb dX3_tell_30 rfl (lv_at hl 2 rfl) ?_
        refine pm_rald (n := 3) (r := (row3 a 11)) hx hb hw (hk.q (i := 7) (dC (by decide))) (hk.f (i := 7) (dC (by decide))) (j := 0) (rfl) (by unfold vp_in; decide) dX3_tell_31 ?_
        refine lv_iload hx hb dX3_tell_32 (lv_at hl 0 rfl) ?_
        refine pm_iald (n := 365) (r := (telG (k.1 7) (k.1 7) (nI fr) fr i)) hx hb hw (hk.q (i := 11) (dC (by decide))) (hk.f (i := 11) (dC (by decide))) (j := i) (nI_clamp (by omega)) (vp_in_nI hi (by decide)) dX3_tell_34 ?_
        refine lv_icmp_lt (tgt := 58) hx hb dX3_tell_35 (by decide) (fun c_35 => ?_) (fun c_35 => ?_)
        · have hno : ¬ (fr ≤ i ∧ (k.1 7 i).toInt ≤ (fr : Int)) := fun q => by rw [telG_at, i32_lt, nI_T (by omega)] at c_35; have := q.2; omega
          refine lv_iinc (v := (nI (i + 1))) (lv' := [(4, .int (nI (i + 1))), (0, .ref (a 3)), (1, .int 0), (2, .int w), (3, .int (nI fr))]) hx hb dX3_tell_58 hl (k := 0) rfl (nI_1 i) (by decide) rfl (fun ls hl => ?_)
          refine lv_goto (tgt := 11) hx hb dX3_tell_61 (by decide) ?_
          rw [telG_f (b := k.1 4) (v := w) hno, telG_f (b := k.1 7) (v := nI fr) hno] at hk
          exact ih_11 (i + 1) _ _ _ (by omega) ⟨_, by omega, hk, hw, lv_sub hl [0, 1, 2, 3, 4] rfl⟩
        · have hsle : (k.1 7 i).toInt ≤ (fr : Int) := by rw [telG_at, i32_lt, nI_T (by omega)] at c_35; omega
          refine lv_aload_n hx hb dX3_tell_38 rfl (lv_at hl 1 rfl) ?_
          refine pm_get (ci := 5) (v := .ref (a 6)) (C := RX3) (T := TX3) (N := 3) hx hb hts hin_X3 hown hw (hk.q (i := 3) (dC (by decide))) (hk.f (i := 3) (dC (by decide))) rfl 0 (by decide) (hts (.fieldLink RX3 11 "Backdater$Tariffs" "weights" "[[I") (by decide +kernel)) (fun _ h9 => h9) rfl dX3_tell_39 ?_
          refine lv_iload_n hx hb dX3_tell_42 rfl (lv_at hl 2 rfl) ?_
          refine pm_rald (n := 3) (r := (row3 a 8)) hx hb hw (hk.q (i := 6) (dC (by decide))) (hk.f (i := 6) (dC (by decide))) (j := 0) (rfl) (by unfold vp_in; decide) dX3_tell_43 ?_
          refine lv_iload hx hb dX3_tell_44 (lv_at hl 0 rfl) ?_
          refine lv_iload_n hx hb dX3_tell_46 rfl (lv_at hl 3 rfl) ?_
          refine pm_iast (n := 365) (r := (telG (k.1 4) (k.1 7) w fr i)) hx hb hw (hk.q (i := 8) (dC (by decide))) (hk.f (i := 8) (dC (by decide))) (j := i) (nI_clamp (by omega)) (vp_in_nI hi (by decide)) dX3_tell_47 (fun H locs hw => ?_)
          have hk := hk.w0 (upd (telG (k.1 4) (k.1 7) w fr i) i w)
          refine lv_aload_n hx hb dX3_tell_48 rfl (lv_at hl 1 rfl) ?_
          refine pm_get (ci := 5) (v := .ref (a 7)) (C := RX3) (T := TX3) (N := 3) hx hb hts hin_X3 hown hw (hk.q (i := 3) (dC (by decide))) (hk.f (i := 3) (dC (by decide))) rfl 1 (by decide) (hts (.fieldLink RX3 16 "Backdater$Tariffs" "since" "[[I") (by decide +kernel)) (fun _ h9 => h9) rfl dX3_tell_49 ?_
          refine lv_iload_n hx hb dX3_tell_52 rfl (lv_at hl 2 rfl) ?_
          refine pm_rald (n := 3) (r := (row3 a 11)) hx hb hw (hk.q (i := 7) (dC (by decide))) (hk.f (i := 7) (dC (by decide))) (j := 0) (rfl) (by unfold vp_in; decide) dX3_tell_53 ?_
          refine lv_iload hx hb dX3_tell_54 (lv_at hl 0 rfl) ?_
          refine lv_iload_n hx hb dX3_tell_56 rfl (lv_at hl 4 rfl) ?_
          refine pm_iast (n := 365) (r := (telG (k.1 7) (k.1 7) (nI fr) fr i)) hx hb hw (hk.q (i := 11) (dC (by decide))) (hk.f (i := 11) (dC (by decide))) (j := i) (nI_clamp (by omega)) (vp_in_nI hi (by decide)) dX3_tell_57 (fun H locs hw => ?_)
          have hk := hk.s0 (upd (telG (k.1 7) (k.1 7) (nI fr) fr i) i (nI fr))
          refine lv_iinc (v := (nI (i + 1))) (lv' := [(4, .int (nI (i + 1))), (0, .ref (a 3)), (1, .int 0), (2, .int w), (3, .int (nI fr))]) hx hb dX3_tell_58 hl (k := 0) rfl (nI_1 i) (by decide) rfl (fun ls hl => ?_)
          refine lv_goto (tgt := 11) hx hb dX3_tell_61 (by decide) ?_
          rw [kV_4 k (by decide)] at hk
          rw [telG_t hge hsle, telG_t hge hsle] at hk hw
          exact ih_11 (i + 1) _ _ _ (by omega) ⟨_, by omega, hk, hw, lv_sub hl [0, 1, 2, 3, 4] rfl⟩
  · exact absurd (by decide) (b2i_eq0 (hE_1 ▸ c_4))

set_option maxHeartbeats 4000000 in
set_option maxRecDepth 100000 in
theorem c_weightOn0 (l : Launch) (g : GE) (L : List Nat) (f : Nat → va_E) (a : Nat → Nat) (k : KS) (hk : CW g a k L f) (d : Nat) (hi : d < 365) : Mi l yX3_weightOn wsX3_weightOn (rmH 1 0 0) g L f [.ref (a 3), .int 0, .int (nI d)] (fun r u => r = k.1 4 d ∧ u = (L, f)) 0 0 := by
  intro sz
  refine Met.ofW (cc := cX3_weightOn) (maxL := 3) (ret := (some .int)) (by decide) rfl ?_
  intro p e s m args below meth c s₁ B hml hv
  obtain ⟨rfl, hv⟩ := hv
  have hx := B.exec
  have hb := B.bytes
  have hr := B.returns
  have hts := atoms_spec (ws := wsX3_weightOn) B.pre
  have hown : s.vm.findClass RX3 = some m.cls := findClass_of_methodNamed B.named
  have hlocks := B.notSynchronized
  obtain ⟨rfl, hw, hs⟩ := pm_begin hv
  generalize va_A (va_pl L f) s.heap.size = A at hw hs ⊢
  have CF := (⟨hx, hb, hml, hown, hts⟩ : CallFix p m c cX3_weightOn 3 s _ wsX3_weightOn RX3)
  have hin_X3 : ∀ w ∈ wsX30, w ∈ wsX3_weightOn := by decide +kernel
  have hl := lv_entry ([.ref (a 3), .int 0, .int (nI d)]) (n := 3) (Nat.le_of_ble_eq_true rfl)
  rw [lg_entry_eq]
  generalize (lg_sl ([.ref (a 3), .int 0, .int (nI d)]) ++ List.replicate (3 - (lg_sl ([.ref (a 3), .int 0, .int (nI d)])).length) Slot.unset).toArray = ls at hl ⊢
  have hl : lv_has ls 3 [(0, .ref (a 3)), (1, .int 0), (2, .int (nI d))] := hl
  refine lv_iload_n hx hb dX3_weightOn_0 rfl (lv_at hl 1 rfl) ?_
  refine pc_i hw (va_runSN (As := [.int 0]) (rest := []) CF ((c_isField l g L _ 0) _) ⟨va_cnB 1 hts gX3_weightOn_X6_isField_n29 rfl rfl rfl (hs.2.2.2.2.2.1 (RX3, 29, yX6_isField) (by decide +kernel)) (hts (.initialized RX6) (by decide +kernel)) (by decide +kernel) ⟨Nat.le_of_ble_eq_true rfl, Nat.le_of_ble_eq_true rfl⟩, hts (.static yX6_isField) (by decide +kernel), trivial⟩ (pm_preS hw hs) rfl rfl hl.1 rfl (lv_room (Nat.le_of_ble_eq_true rfl)) dX3_weightOn_1 ⟨Nat.le_of_ble_eq_true rfl, Nat.le_of_ble_eq_true rfl⟩) (fun r L1 f1 H locs hp hw => ?_)
  obtain ⟨hE_1, hu⟩ := hp
  obtain rfl : _ = L1 := (congrArg Prod.fst hu).symm
  obtain rfl : _ = f1 := (congrArg Prod.snd hu).symm
  generalize r = r_1 at hE_1 ⊢
  refine lv_if_eq (tgt := 25) hx hb dX3_weightOn_4 (by decide) (fun c_4 => ?_) (fun c_4 => ?_)
  · exact absurd (by decide) (b2i_eq0 (hE_1 ▸ c_4))
  · refine lv_iload_n hx hb dX3_weightOn_7 rfl (lv_at hl 2 rfl) ?_
    refine pc_i hw (va_runSN (As := [.int (nI d)]) (rest := []) CF ((c_isDay l g L _ (nI d)) _) ⟨va_cnB 1 hts gX3_weightOn_X6_isDay_n33 rfl rfl rfl (hs.2.2.2.2.2.1 (RX3, 33, yX6_isDay) (by decide +kernel)) (hts (.initialized RX6) (by decide +kernel)) (by decide +kernel) ⟨Nat.le_of_ble_eq_true rfl, Nat.le_of_ble_eq_true rfl⟩, hts (.static yX6_isDay) (by decide +kernel), trivial⟩ (pm_preS hw hs) rfl rfl hl.1 rfl (lv_room (Nat.le_of_ble_eq_true rfl)) dX3_weightOn_8 ⟨Nat.le_of_ble_eq_true rfl, Nat.le_of_ble_eq_true rfl⟩) (fun r L1 f1 H locs hp hw => ?_)
    obtain ⟨hE_8, hu⟩ := hp
    obtain rfl : _ = L1 := (congrArg Prod.fst hu).symm
    obtain rfl : _ = f1 := (congrArg Prod.snd hu).symm
    generalize r = r_8 at hE_8 ⊢
    refine lv_if_eq (tgt := 25) hx hb dX3_weightOn_11 (by decide) (fun c_11 => ?_) (fun c_11 => ?_)
    · exact absurd (dayT hi) (b2i_eq0 (hE_8 ▸ c_11))
    · refine lv_aload_n hx hb dX3_weightOn_14 rfl (lv_at hl 0 rfl) ?_
      refine pm_get (ci := 5) (v := .ref (a 6)) (C := RX3) (T := TX3) (N := 3) hx hb hts hin_X3 hown hw (hk.q (i := 3) (dC (by decide))) (hk.f (i := 3) (dC (by decide))) rfl 0 (by decide) (hts (.fieldLink RX3 11 "Backdater$Tariffs" "weights" "[[I") (by decide +kernel)) (fun _ h9 => h9) rfl dX3_weightOn_15 ?_
      refine lv_iload_n hx hb dX3_weightOn_18 rfl (lv_at hl 1 rfl) ?_
      refine pm_rald (n := 3) (r := (row3 a 8)) hx hb hw (hk.q (i := 6) (dC (by decide))) (hk.f (i := 6) (dC (by decide))) (j := 0) (rfl) (by unfold vp_in; decide) dX3_weightOn_19 ?_
      refine lv_iload_n hx hb dX3_weightOn_20 rfl (lv_at hl 2 rfl) ?_
      refine pm_iald (n := 365) (r := (k.1 4)) hx hb hw (hk.q (i := 8) (dC (by decide))) (hk.f (i := 8) (dC (by decide))) (j := d) (nI_clamp (by omega)) (vp_in_nI hi (by decide)) dX3_weightOn_21 ?_
      refine lv_goto (tgt := 26) hx hb dX3_weightOn_22 (by decide) ?_
      exact pr_i (v := ((k.1 4) d)) hx hb hr hlocks hw rfl ⟨Nat.le_of_ble_eq_true rfl, Nat.le_of_ble_eq_true rfl⟩ (⟨rfl, rfl⟩) dX3_weightOn_26

set_option maxHeartbeats 4000000 in
set_option maxRecDepth 100000 in
theorem c_tell1 (l : Launch) (g : GE) (L : List Nat) (f : Nat → va_E) (a : Nat → Nat) (k : KS) (hk : CW g a k L f) (w : Int32) (fr : Nat) (hfr : fr < 365) : Mv l yX3_tell wsX3_tell (rmH 1 0 0) g L f [.ref (a 3), .int 1, .int w, .int (nI fr)] (fun u => u.1 = L ∧ CW g a (kW (kV (kV k 5 (telG (k.1 5) (k.1 8) w fr 365)) 8 (telG (k.1 8) (k.1 8) (nI fr) fr 365)) 0 1 (k.1 0 1 + 1)) L u.2) 0 0 := by
  intro sz
  refine Met.ofW (cc := cX3_tell) (maxL := 5) (ret := none) (by decide) rfl ?_
  intro p e s m args below meth c s₁ B hml hv
  obtain ⟨rfl, hv⟩ := hv
  have hx := B.exec
  have hb := B.bytes
  have hr := B.returns
  have hts := atoms_spec (ws := wsX3_tell) B.pre
  have hown : s.vm.findClass RX3 = some m.cls := findClass_of_methodNamed B.named
  have hlocks := B.notSynchronized
  obtain ⟨rfl, hw, hs⟩ := pm_begin hv
  generalize va_A (va_pl L f) s.heap.size = A at hw hs ⊢
  have CF := (⟨hx, hb, hml, hown, hts⟩ : CallFix p m c cX3_tell 5 s _ wsX3_tell RX3)
  have hin_X3 : ∀ w ∈ wsX30, w ∈ wsX3_tell := by decide +kernel
  have hl := lv_entry ([.ref (a 3), .int 1, .int w, .int (nI fr)]) (n := 5) (Nat.le_of_ble_eq_true rfl)
  rw [lg_entry_eq]
  generalize (lg_sl ([.ref (a 3), .int 1, .int w, .int (nI fr)]) ++ List.replicate (5 - (lg_sl ([.ref (a 3), .int 1, .int w, .int (nI fr)])).length) Slot.unset).toArray = ls at hl ⊢
  have hl : lv_has ls 5 [(0, .ref (a 3)), (1, .int 1), (2, .int w), (3, .int (nI fr))] := hl
  refine lv_iload_n hx hb dX3_tell_0 rfl (lv_at hl 1 rfl) ?_
  refine pc_i hw (va_runSN (As := [.int 1]) (rest := []) CF ((c_isField l g L _ 1) _) ⟨va_cnB 1 hts gX3_tell_X6_isField_n29 rfl rfl rfl (hs.2.2.2.2.2.1 (RX3, 29, yX6_isField) (by decide +kernel)) (hts (.initialized RX6) (by decide +kernel)) (by decide +kernel) ⟨Nat.le_of_ble_eq_true rfl, Nat.le_of_ble_eq_true rfl⟩, hts (.static yX6_isField) (by decide +kernel), trivial⟩ (pm_preS hw hs) rfl rfl hl.1 rfl (lv_room (Nat.le_of_ble_eq_true rfl)) dX3_tell_1 ⟨Nat.le_of_ble_eq_true rfl, Nat.le_of_ble_eq_true rfl⟩) (fun r L1 f1 H locs hp hw => ?_)
  obtain ⟨hE_1, hu⟩ := hp
  obtain rfl : _ = L1 := (congrArg Prod.fst hu).symm
  obtain rfl : _ = f1 := (congrArg Prod.snd hu).symm
  generalize r = r_1 at hE_1 ⊢
  refine lv_if_ne (tgt := 8) hx hb dX3_tell_4 (by decide) (fun c_4 => ?_) (fun c_4 => ?_)
  · refine lv_iconst (v := 0) hx hb dX3_tell_8 (by decide) ?_
    refine lv_istore (lv' := [(4, .int 0), (0, .ref (a 3)), (1, .int 1), (2, .int w), (3, .int (nI fr))]) hx hb dX3_tell_9 hl (by decide) rfl (fun ls hl => ?_)
    have hk : CW g a (kV (kV k 5 (telG (k.1 5) (k.1 8) w fr 0)) 8 (telG (k.1 8) (k.1 8) (nI fr) fr 0)) L f := by rw [telG_0, telG_0, kV_id, kV_id]; exact hk
    refine W_loop (σ := Nat) (fun i H locs ls => ∃ f1 : Nat → va_E, (i ≤ 365) ∧ CW g a (kV (kV k 5 (telG (k.1 5) (k.1 8) w fr i)) 8 (telG (k.1 8) (k.1 8) (nI fr) fr i)) L f1 ∧ PW g A s H locs L f1 ∧ lv_has ls 5 [(4, .int (nI i)), (0, .ref (a 3)), (1, .int 1), (2, .int w), (3, .int (nI fr))]) (fun i => 365 - i) 0 ⟨_, Nat.zero_le _, hk, hw, lv_sub hl [0, 1, 2, 3, 4] rfl⟩ ?_
    rintro i H locs ls ⟨f1, hi9, hk, hw, hl⟩ ih_11
    refine lv_iload hx hb dX3_tell_11 (lv_at hl 0 rfl) ?_
    refine lv_sipush (v := 365) hx hb dX3_tell_13 (by decide) ?_
    refine lv_icmp_ge (tgt := 64) hx hb dX3_tell_16 (by decide) (fun c_16 => ?_) (fun c_16 => ?_)
    · have hi5 : i = 365 := by rw [show (365 : Int32) = nI 365 from rfl, nI_leI (by decide) (by omega)] at c_16; omega
      refine lv_aload_n hx hb dX3_tell_64 rfl (lv_at hl 1 rfl) ?_
      refine lv_dup hx hb dX3_tell_65 rfl ?_
      refine pm_get (ci := 5) (v := .int (k.1 0 1)) (C := RX3) (T := TX3) (N := 3) hx hb hts hin_X3 hown hw (hk.q (i := 3) (dC (by decide))) (hk.f (i := 3) (dC (by decide))) rfl 2 (by decide) (hts (.fieldLink RX3 19 "Backdater$Tariffs" "count" "I") (by decide +kernel)) (fun _ h9 => h9) rfl dX3_tell_66 ?_
      refine lv_iconst (v := 1) hx hb dX3_tell_69 (by decide) ?_
      refine lv_iadd hx hb dX3_tell_70 ?_
      refine pm_put (ci := 5) (v := .int ((k.1 0 1) + 1)) (ty := .int) (C := RX3) (T := TX3) (N := 3) hx hb hts hin_X3 tyX3 tyX3_ok nmX3 hown hw (hk.q (i := 3) (dC (by decide))) (hk.f (i := 3) (dC (by decide))) rfl 2 (by decide) (hts (.fieldLink RX3 19 "Backdater$Tariffs" "count" "I") (by decide +kernel)) (fun _ h9 => h9) rfl (by decide +kernel) rfl rfl (Nat.le_of_ble_eq_true rfl) dX3_tell_71 (fun H locs hw => ?_)
      have hk := hk.tc ((k.1 0 1) + 1)
      exact pr_v hx hb hr hlocks hw ⟨Nat.le_of_ble_eq_true rfl, Nat.le_of_ble_eq_true rfl⟩ (⟨rfl, by rw [hi5] at hk; exact hk⟩) dX3_tell_74
    · have hi : i < 365 := by rw [show (365 : Int32) = nI 365 from rfl, nI_leI (by decide) (by omega)] at c_16; omega
      refine lv_iload_n hx hb dX3_tell_19 rfl (lv_at hl 4 rfl) ?_
      refine lv_iload hx hb dX3_tell_20 (lv_at hl 0 rfl) ?_
      refine lv_icmp_gt (tgt := 58) hx hb dX3_tell_22 (by decide) (fun c_22 => ?_) (fun c_22 => ?_)
      · have hno : ¬ (fr ≤ i ∧ (k.1 8 i).toInt ≤ (fr : Int)) := fun q => by rw [i32_lt, nI_T (by omega), nI_T (by omega)] at c_22; have := q.1; omega
        refine lv_iinc (v := (nI (i + 1))) (lv' := [(4, .int (nI (i + 1))), (0, .ref (a 3)), (1, .int 1), (2, .int w), (3, .int (nI fr))]) hx hb dX3_tell_58 hl (k := 0) rfl (nI_1 i) (by decide) rfl (fun ls hl => ?_)
        refine lv_goto (tgt := 11) hx hb dX3_tell_61 (by decide) ?_
        rw [telG_f (b := k.1 5) (v := w) hno, telG_f (b := k.1 8) (v := nI fr) hno] at hk
        exact ih_11 (i + 1) _ _ _ (by omega) ⟨_, by omega, hk, hw, lv_sub hl [0, 1, 2, 3, 4] rfl⟩
      · have hge : fr ≤ i := by rw [i32_lt, nI_T (by omega), nI_T (by omega)] at c_22; omega
        refine lv_iload_n hx hb dX3_tell_25 rfl (lv_at hl 4 rfl) ?_
        refine lv_aload_n hx hb dX3_tell_26 rfl (lv_at hl 1 rfl) ?_
        refine pm_get (ci := 5) (v := .ref (a 7)) (C := RX3) (T := TX3) (N := 3) hx hb hts hin_X3 hown hw (hk.q (i := 3) (dC (by decide))) (hk.f (i := 3) (dC (by decide))) rfl 1 (by decide) (hts (.fieldLink RX3 16 "Backdater$Tariffs" "since" "[[I") (by decide +kernel)) (fun _ h9 => h9) rfl dX3_tell_27 ?_
        refine lv_iload_n hx hb dX3_tell_30 rfl (lv_at hl 2 rfl) ?_
        refine pm_rald (n := 3) (r := (row3 a 11)) hx hb hw (hk.q (i := 7) (dC (by decide))) (hk.f (i := 7) (dC (by decide))) (j := 1) (rfl) (by unfold vp_in; decide) dX3_tell_31 ?_
        refine lv_iload hx hb dX3_tell_32 (lv_at hl 0 rfl) ?_
        refine pm_iald (n := 365) (r := (telG (k.1 8) (k.1 8) (nI fr) fr i)) hx hb hw (hk.q (i := 12) (dC (by decide))) (hk.f (i := 12) (dC (by decide))) (j := i) (nI_clamp (by omega)) (vp_in_nI hi (by decide)) dX3_tell_34 ?_
        refine lv_icmp_lt (tgt := 58) hx hb dX3_tell_35 (by decide) (fun c_35 => ?_) (fun c_35 => ?_)
        · have hno : ¬ (fr ≤ i ∧ (k.1 8 i).toInt ≤ (fr : Int)) := fun q => by rw [telG_at, i32_lt, nI_T (by omega)] at c_35; have := q.2; omega
          refine lv_iinc (v := (nI (i + 1))) (lv' := [(4, .int (nI (i + 1))), (0, .ref (a 3)), (1, .int 1), (2, .int w), (3, .int (nI fr))]) hx hb dX3_tell_58 hl (k := 0) rfl (nI_1 i) (by decide) rfl (fun ls hl => ?_)
          refine lv_goto (tgt := 11) hx hb dX3_tell_61 (by decide) ?_
          rw [telG_f (b := k.1 5) (v := w) hno, telG_f (b := k.1 8) (v := nI fr) hno] at hk
          exact ih_11 (i + 1) _ _ _ (by omega) ⟨_, by omega, hk, hw, lv_sub hl [0, 1, 2, 3, 4] rfl⟩
        · have hsle : (k.1 8 i).toInt ≤ (fr : Int) := by rw [telG_at, i32_lt, nI_T (by omega)] at c_35; omega
          refine lv_aload_n hx hb dX3_tell_38 rfl (lv_at hl 1 rfl) ?_
          refine pm_get (ci := 5) (v := .ref (a 6)) (C := RX3) (T := TX3) (N := 3) hx hb hts hin_X3 hown hw (hk.q (i := 3) (dC (by decide))) (hk.f (i := 3) (dC (by decide))) rfl 0 (by decide) (hts (.fieldLink RX3 11 "Backdater$Tariffs" "weights" "[[I") (by decide +kernel)) (fun _ h9 => h9) rfl dX3_tell_39 ?_
          refine lv_iload_n hx hb dX3_tell_42 rfl (lv_at hl 2 rfl) ?_
          refine pm_rald (n := 3) (r := (row3 a 8)) hx hb hw (hk.q (i := 6) (dC (by decide))) (hk.f (i := 6) (dC (by decide))) (j := 1) (rfl) (by unfold vp_in; decide) dX3_tell_43 ?_
          refine lv_iload hx hb dX3_tell_44 (lv_at hl 0 rfl) ?_
          refine lv_iload_n hx hb dX3_tell_46 rfl (lv_at hl 3 rfl) ?_
          refine pm_iast (n := 365) (r := (telG (k.1 5) (k.1 8) w fr i)) hx hb hw (hk.q (i := 9) (dC (by decide))) (hk.f (i := 9) (dC (by decide))) (j := i) (nI_clamp (by omega)) (vp_in_nI hi (by decide)) dX3_tell_47 (fun H locs hw => ?_)
          have hk := hk.w1 (upd (telG (k.1 5) (k.1 8) w fr i) i w)
          refine lv_aload_n hx hb dX3_tell_48 rfl (lv_at hl 1 rfl) ?_
          refine pm_get (ci := 5) (v := .ref (a 7)) (C := RX3) (T := TX3) (N := 3) hx hb hts hin_X3 hown hw (hk.q (i := 3) (dC (by decide))) (hk.f (i := 3) (dC (by decide))) rfl 1 (by decide) (hts (.fieldLink RX3 16 "Backdater$Tariffs" "since" "[[I") (by decide +kernel)) (fun _ h9 => h9) rfl dX3_tell_49 ?_
          refine lv_iload_n hx hb dX3_tell_52 rfl (lv_at hl 2 rfl) ?_
          refine pm_rald (n := 3) (r := (row3 a 11)) hx hb hw (hk.q (i := 7) (dC (by decide))) (hk.f (i := 7) (dC (by decide))) (j := 1) (rfl) (by unfold vp_in; decide) dX3_tell_53 ?_
          refine lv_iload hx hb dX3_tell_54 (lv_at hl 0 rfl) ?_
          refine lv_iload_n hx hb dX3_tell_56 rfl (lv_at hl 4 rfl) ?_
          refine pm_iast (n := 365) (r := (telG (k.1 8) (k.1 8) (nI fr) fr i)) hx hb hw (hk.q (i := 12) (dC (by decide))) (hk.f (i := 12) (dC (by decide))) (j := i) (nI_clamp (by omega)) (vp_in_nI hi (by decide)) dX3_tell_57 (fun H locs hw => ?_)
          have hk := hk.s1 (upd (telG (k.1 8) (k.1 8) (nI fr) fr i) i (nI fr))
          refine lv_iinc (v := (nI (i + 1))) (lv' := [(4, .int (nI (i + 1))), (0, .ref (a 3)), (1, .int 1), (2, .int w), (3, .int (nI fr))]) hx hb dX3_tell_58 hl (k := 0) rfl (nI_1 i) (by decide) rfl (fun ls hl => ?_)
          refine lv_goto (tgt := 11) hx hb dX3_tell_61 (by decide) ?_
          rw [kV_4 k (by decide)] at hk
          rw [telG_t hge hsle, telG_t hge hsle] at hk hw
          exact ih_11 (i + 1) _ _ _ (by omega) ⟨_, by omega, hk, hw, lv_sub hl [0, 1, 2, 3, 4] rfl⟩
  · exact absurd (by decide) (b2i_eq0 (hE_1 ▸ c_4))

set_option maxHeartbeats 4000000 in
set_option maxRecDepth 100000 in
theorem c_weightOn1 (l : Launch) (g : GE) (L : List Nat) (f : Nat → va_E) (a : Nat → Nat) (k : KS) (hk : CW g a k L f) (d : Nat) (hi : d < 365) : Mi l yX3_weightOn wsX3_weightOn (rmH 1 0 0) g L f [.ref (a 3), .int 1, .int (nI d)] (fun r u => r = k.1 5 d ∧ u = (L, f)) 0 0 := by
  intro sz
  refine Met.ofW (cc := cX3_weightOn) (maxL := 3) (ret := (some .int)) (by decide) rfl ?_
  intro p e s m args below meth c s₁ B hml hv
  obtain ⟨rfl, hv⟩ := hv
  have hx := B.exec
  have hb := B.bytes
  have hr := B.returns
  have hts := atoms_spec (ws := wsX3_weightOn) B.pre
  have hown : s.vm.findClass RX3 = some m.cls := findClass_of_methodNamed B.named
  have hlocks := B.notSynchronized
  obtain ⟨rfl, hw, hs⟩ := pm_begin hv
  generalize va_A (va_pl L f) s.heap.size = A at hw hs ⊢
  have CF := (⟨hx, hb, hml, hown, hts⟩ : CallFix p m c cX3_weightOn 3 s _ wsX3_weightOn RX3)
  have hin_X3 : ∀ w ∈ wsX30, w ∈ wsX3_weightOn := by decide +kernel
  have hl := lv_entry ([.ref (a 3), .int 1, .int (nI d)]) (n := 3) (Nat.le_of_ble_eq_true rfl)
  rw [lg_entry_eq]
  generalize (lg_sl ([.ref (a 3), .int 1, .int (nI d)]) ++ List.replicate (3 - (lg_sl ([.ref (a 3), .int 1, .int (nI d)])).length) Slot.unset).toArray = ls at hl ⊢
  have hl : lv_has ls 3 [(0, .ref (a 3)), (1, .int 1), (2, .int (nI d))] := hl
  refine lv_iload_n hx hb dX3_weightOn_0 rfl (lv_at hl 1 rfl) ?_
  refine pc_i hw (va_runSN (As := [.int 1]) (rest := []) CF ((c_isField l g L _ 1) _) ⟨va_cnB 1 hts gX3_weightOn_X6_isField_n29 rfl rfl rfl (hs.2.2.2.2.2.1 (RX3, 29, yX6_isField) (by decide +kernel)) (hts (.initialized RX6) (by decide +kernel)) (by decide +kernel) ⟨Nat.le_of_ble_eq_true rfl, Nat.le_of_ble_eq_true rfl⟩, hts (.static yX6_isField) (by decide +kernel), trivial⟩ (pm_preS hw hs) rfl rfl hl.1 rfl (lv_room (Nat.le_of_ble_eq_true rfl)) dX3_weightOn_1 ⟨Nat.le_of_ble_eq_true rfl, Nat.le_of_ble_eq_true rfl⟩) (fun r L1 f1 H locs hp hw => ?_)
  obtain ⟨hE_1, hu⟩ := hp
  obtain rfl : _ = L1 := (congrArg Prod.fst hu).symm
  obtain rfl : _ = f1 := (congrArg Prod.snd hu).symm
  generalize r = r_1 at hE_1 ⊢
  refine lv_if_eq (tgt := 25) hx hb dX3_weightOn_4 (by decide) (fun c_4 => ?_) (fun c_4 => ?_)
  · exact absurd (by decide) (b2i_eq0 (hE_1 ▸ c_4))
  · refine lv_iload_n hx hb dX3_weightOn_7 rfl (lv_at hl 2 rfl) ?_
    refine pc_i hw (va_runSN (As := [.int (nI d)]) (rest := []) CF ((c_isDay l g L _ (nI d)) _) ⟨va_cnB 1 hts gX3_weightOn_X6_isDay_n33 rfl rfl rfl (hs.2.2.2.2.2.1 (RX3, 33, yX6_isDay) (by decide +kernel)) (hts (.initialized RX6) (by decide +kernel)) (by decide +kernel) ⟨Nat.le_of_ble_eq_true rfl, Nat.le_of_ble_eq_true rfl⟩, hts (.static yX6_isDay) (by decide +kernel), trivial⟩ (pm_preS hw hs) rfl rfl hl.1 rfl (lv_room (Nat.le_of_ble_eq_true rfl)) dX3_weightOn_8 ⟨Nat.le_of_ble_eq_true rfl, Nat.le_of_ble_eq_true rfl⟩) (fun r L1 f1 H locs hp hw => ?_)
    obtain ⟨hE_8, hu⟩ := hp
    obtain rfl : _ = L1 := (congrArg Prod.fst hu).symm
    obtain rfl : _ = f1 := (congrArg Prod.snd hu).symm
    generalize r = r_8 at hE_8 ⊢
    refine lv_if_eq (tgt := 25) hx hb dX3_weightOn_11 (by decide) (fun c_11 => ?_) (fun c_11 => ?_)
    · exact absurd (dayT hi) (b2i_eq0 (hE_8 ▸ c_11))
    · refine lv_aload_n hx hb dX3_weightOn_14 rfl (lv_at hl 0 rfl) ?_
      refine pm_get (ci := 5) (v := .ref (a 6)) (C := RX3) (T := TX3) (N := 3) hx hb hts hin_X3 hown hw (hk.q (i := 3) (dC (by decide))) (hk.f (i := 3) (dC (by decide))) rfl 0 (by decide) (hts (.fieldLink RX3 11 "Backdater$Tariffs" "weights" "[[I") (by decide +kernel)) (fun _ h9 => h9) rfl dX3_weightOn_15 ?_
      refine lv_iload_n hx hb dX3_weightOn_18 rfl (lv_at hl 1 rfl) ?_
      refine pm_rald (n := 3) (r := (row3 a 8)) hx hb hw (hk.q (i := 6) (dC (by decide))) (hk.f (i := 6) (dC (by decide))) (j := 1) (rfl) (by unfold vp_in; decide) dX3_weightOn_19 ?_
      refine lv_iload_n hx hb dX3_weightOn_20 rfl (lv_at hl 2 rfl) ?_
      refine pm_iald (n := 365) (r := (k.1 5)) hx hb hw (hk.q (i := 9) (dC (by decide))) (hk.f (i := 9) (dC (by decide))) (j := d) (nI_clamp (by omega)) (vp_in_nI hi (by decide)) dX3_weightOn_21 ?_
      refine lv_goto (tgt := 26) hx hb dX3_weightOn_22 (by decide) ?_
      exact pr_i (v := ((k.1 5) d)) hx hb hr hlocks hw rfl ⟨Nat.le_of_ble_eq_true rfl, Nat.le_of_ble_eq_true rfl⟩ (⟨rfl, rfl⟩) dX3_weightOn_26

set_option maxHeartbeats 4000000 in
set_option maxRecDepth 100000 in
theorem c_tell2 (l : Launch) (g : GE) (L : List Nat) (f : Nat → va_E) (a : Nat → Nat) (k : KS) (hk : CW g a k L f) (w : Int32) (fr : Nat) (hfr : fr < 365) : Mv l yX3_tell wsX3_tell (rmH 1 0 0) g L f [.ref (a 3), .int 2, .int w, .int (nI fr)] (fun u => u.1 = L ∧ CW g a (kW (kV (kV k 6 (telG (k.1 6) (k.1 9) w fr 365)) 9 (telG (k.1 9) (k.1 9) (nI fr) fr 365)) 0 1 (k.1 0 1 + 1)) L u.2) 0 0 := by
  intro sz
  refine Met.ofW (cc := cX3_tell) (maxL := 5) (ret := none) (by decide) rfl ?_
  intro p e s m args below meth c s₁ B hml hv
  obtain ⟨rfl, hv⟩ := hv
  have hx := B.exec
  have hb := B.bytes
  have hr := B.returns
  have hts := atoms_spec (ws := wsX3_tell) B.pre
  have hown : s.vm.findClass RX3 = some m.cls := findClass_of_methodNamed B.named
  have hlocks := B.notSynchronized
  obtain ⟨rfl, hw, hs⟩ := pm_begin hv
  generalize va_A (va_pl L f) s.heap.size = A at hw hs ⊢
  have CF := (⟨hx, hb, hml, hown, hts⟩ : CallFix p m c cX3_tell 5 s _ wsX3_tell RX3)
  have hin_X3 : ∀ w ∈ wsX30, w ∈ wsX3_tell := by decide +kernel
  have hl := lv_entry ([.ref (a 3), .int 2, .int w, .int (nI fr)]) (n := 5) (Nat.le_of_ble_eq_true rfl)
  rw [lg_entry_eq]
  generalize (lg_sl ([.ref (a 3), .int 2, .int w, .int (nI fr)]) ++ List.replicate (5 - (lg_sl ([.ref (a 3), .int 2, .int w, .int (nI fr)])).length) Slot.unset).toArray = ls at hl ⊢
  have hl : lv_has ls 5 [(0, .ref (a 3)), (1, .int 2), (2, .int w), (3, .int (nI fr))] := hl
  refine lv_iload_n hx hb dX3_tell_0 rfl (lv_at hl 1 rfl) ?_
  refine pc_i hw (va_runSN (As := [.int 2]) (rest := []) CF ((c_isField l g L _ 2) _) ⟨va_cnB 1 hts gX3_tell_X6_isField_n29 rfl rfl rfl (hs.2.2.2.2.2.1 (RX3, 29, yX6_isField) (by decide +kernel)) (hts (.initialized RX6) (by decide +kernel)) (by decide +kernel) ⟨Nat.le_of_ble_eq_true rfl, Nat.le_of_ble_eq_true rfl⟩, hts (.static yX6_isField) (by decide +kernel), trivial⟩ (pm_preS hw hs) rfl rfl hl.1 rfl (lv_room (Nat.le_of_ble_eq_true rfl)) dX3_tell_1 ⟨Nat.le_of_ble_eq_true rfl, Nat.le_of_ble_eq_true rfl⟩) (fun r L1 f1 H locs hp hw => ?_)
  obtain ⟨hE_1, hu⟩ := hp
  obtain rfl : _ = L1 := (congrArg Prod.fst hu).symm
  obtain rfl : _ = f1 := (congrArg Prod.snd hu).symm
  generalize r = r_1 at hE_1 ⊢
  refine lv_if_ne (tgt := 8) hx hb dX3_tell_4 (by decide) (fun c_4 => ?_) (fun c_4 => ?_)
  · refine lv_iconst (v := 0) hx hb dX3_tell_8 (by decide) ?_
    refine lv_istore (lv' := [(4, .int 0), (0, .ref (a 3)), (1, .int 2), (2, .int w), (3, .int (nI fr))]) hx hb dX3_tell_9 hl (by decide) rfl (fun ls hl => ?_)
    have hk : CW g a (kV (kV k 6 (telG (k.1 6) (k.1 9) w fr 0)) 9 (telG (k.1 9) (k.1 9) (nI fr) fr 0)) L f := by rw [telG_0, telG_0, kV_id, kV_id]; exact hk
    refine W_loop (σ := Nat) (fun i H locs ls => ∃ f1 : Nat → va_E, (i ≤ 365) ∧ CW g a (kV (kV k 6 (telG (k.1 6) (k.1 9) w fr i)) 9 (telG (k.1 9) (k.1 9) (nI fr) fr i)) L f1 ∧ PW g A s H locs L f1 ∧ lv_has ls 5 [(4, .int (nI i)), (0, .ref (a 3)), (1, .int 2), (2, .int w), (3, .int (nI fr))]) (fun i => 365 - i) 0 ⟨_, Nat.zero_le _, hk, hw, lv_sub hl [0, 1, 2, 3, 4] rfl⟩ ?_
    rintro i H locs ls ⟨f1, hi9, hk, hw, hl⟩ ih_11
    refine lv_iload hx hb dX3_tell_11 (lv_at hl 0 rfl) ?_
    refine lv_sipush (v := 365) hx hb dX3_tell_13 (by decide) ?_
    refine lv_icmp_ge (tgt := 64) hx hb dX3_tell_16 (by decide) (fun c_16 => ?_) (fun c_16 => ?_)
    · have hi5 : i = 365 := by rw [show (365 : Int32) = nI 365 from rfl, nI_leI (by decide) (by omega)] at c_16; omega
      refine lv_aload_n hx hb dX3_tell_64 rfl (lv_at hl 1 rfl) ?_
      refine lv_dup hx hb dX3_tell_65 rfl ?_
      refine pm_get (ci := 5) (v := .int (k.1 0 1)) (C := RX3) (T := TX3) (N := 3) hx hb hts hin_X3 hown hw (hk.q (i := 3) (dC (by decide))) (hk.f (i := 3) (dC (by decide))) rfl 2 (by decide) (hts (.fieldLink RX3 19 "Backdater$Tariffs" "count" "I") (by decide +kernel)) (fun _ h9 => h9) rfl dX3_tell_66 ?_
      refine lv_iconst (v := 1) hx hb dX3_tell_69 (by decide) ?_
      refine lv_iadd hx hb dX3_tell_70 ?_
      refine pm_put (ci := 5) (v := .int ((k.1 0 1) + 1)) (ty := .int) (C := RX3) (T := TX3) (N := 3) hx hb hts hin_X3 tyX3 tyX3_ok nmX3 hown hw (hk.q (i := 3) (dC (by decide))) (hk.f (i := 3) (dC (by decide))) rfl 2 (by decide) (hts (.fieldLink RX3 19 "Backdater$Tariffs" "count" "I") (by decide +kernel)) (fun _ h9 => h9) rfl (by decide +kernel) rfl rfl (Nat.le_of_ble_eq_true rfl) dX3_tell_71 (fun H locs hw => ?_)
      have hk := hk.tc ((k.1 0 1) + 1)
      exact pr_v hx hb hr hlocks hw ⟨Nat.le_of_ble_eq_true rfl, Nat.le_of_ble_eq_true rfl⟩ (⟨rfl, by rw [hi5] at hk; exact hk⟩) dX3_tell_74
    · have hi : i < 365 := by rw [show (365 : Int32) = nI 365 from rfl, nI_leI (by decide) (by omega)] at c_16; omega
      refine lv_iload_n hx hb dX3_tell_19 rfl (lv_at hl 4 rfl) ?_
      refine lv_iload hx hb dX3_tell_20 (lv_at hl 0 rfl) ?_
      refine lv_icmp_gt (tgt := 58) hx hb dX3_tell_22 (by decide) (fun c_22 => ?_) (fun c_22 => ?_)
      · have hno : ¬ (fr ≤ i ∧ (k.1 9 i).toInt ≤ (fr : Int)) := fun q => by rw [i32_lt, nI_T (by omega), nI_T (by omega)] at c_22; have := q.1; omega
        refine lv_iinc (v := (nI (i + 1))) (lv' := [(4, .int (nI (i + 1))), (0, .ref (a 3)), (1, .int 2), (2, .int w), (3, .int (nI fr))]) hx hb dX3_tell_58 hl (k := 0) rfl (nI_1 i) (by decide) rfl (fun ls hl => ?_)
        refine lv_goto (tgt := 11) hx hb dX3_tell_61 (by decide) ?_
        rw [telG_f (b := k.1 6) (v := w) hno, telG_f (b := k.1 9) (v := nI fr) hno] at hk
        exact ih_11 (i + 1) _ _ _ (by omega) ⟨_, by omega, hk, hw, lv_sub hl [0, 1, 2, 3, 4] rfl⟩
      · have hge : fr ≤ i := by rw [i32_lt, nI_T (by omega), nI_T (by omega)] at c_22; omega
        refine lv_iload_n hx hb dX3_tell_25 rfl (lv_at hl 4 rfl) ?_
        refine lv_aload_n hx hb dX3_tell_26 rfl (lv_at hl 1 rfl) ?_
        refine pm_get (ci := 5) (v := .ref (a 7)) (C := RX3) (T := TX3) (N := 3) hx hb hts hin_X3 hown hw (hk.q (i := 3) (dC (by decide))) (hk.f (i := 3) (dC (by decide))) rfl 1 (by decide) (hts (.fieldLink RX3 16 "Backdater$Tariffs" "since" "[[I") (by decide +kernel)) (fun _ h9 => h9) rfl dX3_tell_27 ?_
        refine lv_iload_n hx hb dX3_tell_30 rfl (lv_at hl 2 rfl) ?_
        refine pm_rald (n := 3) (r := (row3 a 11)) hx hb hw (hk.q (i := 7) (dC (by decide))) (hk.f (i := 7) (dC (by decide))) (j := 2) (rfl) (by unfold vp_in; decide) dX3_tell_31 ?_
        refine lv_iload hx hb dX3_tell_32 (lv_at hl 0 rfl) ?_
        refine pm_iald (n := 365) (r := (telG (k.1 9) (k.1 9) (nI fr) fr i)) hx hb hw (hk.q (i := 13) (dC (by decide))) (hk.f (i := 13) (dC (by decide))) (j := i) (nI_clamp (by omega)) (vp_in_nI hi (by decide)) dX3_tell_34 ?_
        refine lv_icmp_lt (tgt := 58) hx hb dX3_tell_35 (by decide) (fun c_35 => ?_) (fun c_35 => ?_)
        · have hno : ¬ (fr ≤ i ∧ (k.1 9 i).toInt ≤ (fr : Int)) := fun q => by rw [telG_at, i32_lt, nI_T (by omega)] at c_35; have := q.2; omega
          refine lv_iinc (v := (nI (i + 1))) (lv' := [(4, .int (nI (i + 1))), (0, .ref (a 3)), (1, .int 2), (2, .int w), (3, .int (nI fr))]) hx hb dX3_tell_58 hl (k := 0) rfl (nI_1 i) (by decide) rfl (fun ls hl => ?_)
          refine lv_goto (tgt := 11) hx hb dX3_tell_61 (by decide) ?_
          rw [telG_f (b := k.1 6) (v := w) hno, telG_f (b := k.1 9) (v := nI fr) hno] at hk
          exact ih_11 (i + 1) _ _ _ (by omega) ⟨_, by omega, hk, hw, lv_sub hl [0, 1, 2, 3, 4] rfl⟩
        · have hsle : (k.1 9 i).toInt ≤ (fr : Int) := by rw [telG_at, i32_lt, nI_T (by omega)] at c_35; omega
          refine lv_aload_n hx hb dX3_tell_38 rfl (lv_at hl 1 rfl) ?_
          refine pm_get (ci := 5) (v := .ref (a 6)) (C := RX3) (T := TX3) (N := 3) hx hb hts hin_X3 hown hw (hk.q (i := 3) (dC (by decide))) (hk.f (i := 3) (dC (by decide))) rfl 0 (by decide) (hts (.fieldLink RX3 11 "Backdater$Tariffs" "weights" "[[I") (by decide +kernel)) (fun _ h9 => h9) rfl dX3_tell_39 ?_
          refine lv_iload_n hx hb dX3_tell_42 rfl (lv_at hl 2 rfl) ?_
          refine pm_rald (n := 3) (r := (row3 a 8)) hx hb hw (hk.q (i := 6) (dC (by decide))) (hk.f (i := 6) (dC (by decide))) (j := 2) (rfl) (by unfold vp_in; decide) dX3_tell_43 ?_
          refine lv_iload hx hb dX3_tell_44 (lv_at hl 0 rfl) ?_
          refine lv_iload_n hx hb dX3_tell_46 rfl (lv_at hl 3 rfl) ?_
          refine pm_iast (n := 365) (r := (telG (k.1 6) (k.1 9) w fr i)) hx hb hw (hk.q (i := 10) (dC (by decide))) (hk.f (i := 10) (dC (by decide))) (j := i) (nI_clamp (by omega)) (vp_in_nI hi (by decide)) dX3_tell_47 (fun H locs hw => ?_)
          have hk := hk.w2 (upd (telG (k.1 6) (k.1 9) w fr i) i w)
          refine lv_aload_n hx hb dX3_tell_48 rfl (lv_at hl 1 rfl) ?_
          refine pm_get (ci := 5) (v := .ref (a 7)) (C := RX3) (T := TX3) (N := 3) hx hb hts hin_X3 hown hw (hk.q (i := 3) (dC (by decide))) (hk.f (i := 3) (dC (by decide))) rfl 1 (by decide) (hts (.fieldLink RX3 16 "Backdater$Tariffs" "since" "[[I") (by decide +kernel)) (fun _ h9 => h9) rfl dX3_tell_49 ?_
          refine lv_iload_n hx hb dX3_tell_52 rfl (lv_at hl 2 rfl) ?_
          refine pm_rald (n := 3) (r := (row3 a 11)) hx hb hw (hk.q (i := 7) (dC (by decide))) (hk.f (i := 7) (dC (by decide))) (j := 2) (rfl) (by unfold vp_in; decide) dX3_tell_53 ?_
          refine lv_iload hx hb dX3_tell_54 (lv_at hl 0 rfl) ?_
          refine lv_iload_n hx hb dX3_tell_56 rfl (lv_at hl 4 rfl) ?_
          refine pm_iast (n := 365) (r := (telG (k.1 9) (k.1 9) (nI fr) fr i)) hx hb hw (hk.q (i := 13) (dC (by decide))) (hk.f (i := 13) (dC (by decide))) (j := i) (nI_clamp (by omega)) (vp_in_nI hi (by decide)) dX3_tell_57 (fun H locs hw => ?_)
          have hk := hk.s2 (upd (telG (k.1 9) (k.1 9) (nI fr) fr i) i (nI fr))
          refine lv_iinc (v := (nI (i + 1))) (lv' := [(4, .int (nI (i + 1))), (0, .ref (a 3)), (1, .int 2), (2, .int w), (3, .int (nI fr))]) hx hb dX3_tell_58 hl (k := 0) rfl (nI_1 i) (by decide) rfl (fun ls hl => ?_)
          refine lv_goto (tgt := 11) hx hb dX3_tell_61 (by decide) ?_
          rw [kV_4 k (by decide)] at hk
          rw [telG_t hge hsle, telG_t hge hsle] at hk hw
          exact ih_11 (i + 1) _ _ _ (by omega) ⟨_, by omega, hk, hw, lv_sub hl [0, 1, 2, 3, 4] rfl⟩
  · exact absurd (by decide) (b2i_eq0 (hE_1 ▸ c_4))

set_option maxHeartbeats 4000000 in
set_option maxRecDepth 100000 in
theorem c_weightOn2 (l : Launch) (g : GE) (L : List Nat) (f : Nat → va_E) (a : Nat → Nat) (k : KS) (hk : CW g a k L f) (d : Nat) (hi : d < 365) : Mi l yX3_weightOn wsX3_weightOn (rmH 1 0 0) g L f [.ref (a 3), .int 2, .int (nI d)] (fun r u => r = k.1 6 d ∧ u = (L, f)) 0 0 := by
  intro sz
  refine Met.ofW (cc := cX3_weightOn) (maxL := 3) (ret := (some .int)) (by decide) rfl ?_
  intro p e s m args below meth c s₁ B hml hv
  obtain ⟨rfl, hv⟩ := hv
  have hx := B.exec
  have hb := B.bytes
  have hr := B.returns
  have hts := atoms_spec (ws := wsX3_weightOn) B.pre
  have hown : s.vm.findClass RX3 = some m.cls := findClass_of_methodNamed B.named
  have hlocks := B.notSynchronized
  obtain ⟨rfl, hw, hs⟩ := pm_begin hv
  generalize va_A (va_pl L f) s.heap.size = A at hw hs ⊢
  have CF := (⟨hx, hb, hml, hown, hts⟩ : CallFix p m c cX3_weightOn 3 s _ wsX3_weightOn RX3)
  have hin_X3 : ∀ w ∈ wsX30, w ∈ wsX3_weightOn := by decide +kernel
  have hl := lv_entry ([.ref (a 3), .int 2, .int (nI d)]) (n := 3) (Nat.le_of_ble_eq_true rfl)
  rw [lg_entry_eq]
  generalize (lg_sl ([.ref (a 3), .int 2, .int (nI d)]) ++ List.replicate (3 - (lg_sl ([.ref (a 3), .int 2, .int (nI d)])).length) Slot.unset).toArray = ls at hl ⊢
  have hl : lv_has ls 3 [(0, .ref (a 3)), (1, .int 2), (2, .int (nI d))] := hl
  refine lv_iload_n hx hb dX3_weightOn_0 rfl (lv_at hl 1 rfl) ?_
  refine pc_i hw (va_runSN (As := [.int 2]) (rest := []) CF ((c_isField l g L _ 2) _) ⟨va_cnB 1 hts gX3_weightOn_X6_isField_n29 rfl rfl rfl (hs.2.2.2.2.2.1 (RX3, 29, yX6_isField) (by decide +kernel)) (hts (.initialized RX6) (by decide +kernel)) (by decide +kernel) ⟨Nat.le_of_ble_eq_true rfl, Nat.le_of_ble_eq_true rfl⟩, hts (.static yX6_isField) (by decide +kernel), trivial⟩ (pm_preS hw hs) rfl rfl hl.1 rfl (lv_room (Nat.le_of_ble_eq_true rfl)) dX3_weightOn_1 ⟨Nat.le_of_ble_eq_true rfl, Nat.le_of_ble_eq_true rfl⟩) (fun r L1 f1 H locs hp hw => ?_)
  obtain ⟨hE_1, hu⟩ := hp
  obtain rfl : _ = L1 := (congrArg Prod.fst hu).symm
  obtain rfl : _ = f1 := (congrArg Prod.snd hu).symm
  generalize r = r_1 at hE_1 ⊢
  refine lv_if_eq (tgt := 25) hx hb dX3_weightOn_4 (by decide) (fun c_4 => ?_) (fun c_4 => ?_)
  · exact absurd (by decide) (b2i_eq0 (hE_1 ▸ c_4))
  · refine lv_iload_n hx hb dX3_weightOn_7 rfl (lv_at hl 2 rfl) ?_
    refine pc_i hw (va_runSN (As := [.int (nI d)]) (rest := []) CF ((c_isDay l g L _ (nI d)) _) ⟨va_cnB 1 hts gX3_weightOn_X6_isDay_n33 rfl rfl rfl (hs.2.2.2.2.2.1 (RX3, 33, yX6_isDay) (by decide +kernel)) (hts (.initialized RX6) (by decide +kernel)) (by decide +kernel) ⟨Nat.le_of_ble_eq_true rfl, Nat.le_of_ble_eq_true rfl⟩, hts (.static yX6_isDay) (by decide +kernel), trivial⟩ (pm_preS hw hs) rfl rfl hl.1 rfl (lv_room (Nat.le_of_ble_eq_true rfl)) dX3_weightOn_8 ⟨Nat.le_of_ble_eq_true rfl, Nat.le_of_ble_eq_true rfl⟩) (fun r L1 f1 H locs hp hw => ?_)
    obtain ⟨hE_8, hu⟩ := hp
    obtain rfl : _ = L1 := (congrArg Prod.fst hu).symm
    obtain rfl : _ = f1 := (congrArg Prod.snd hu).symm
    generalize r = r_8 at hE_8 ⊢
    refine lv_if_eq (tgt := 25) hx hb dX3_weightOn_11 (by decide) (fun c_11 => ?_) (fun c_11 => ?_)
    · exact absurd (dayT hi) (b2i_eq0 (hE_8 ▸ c_11))
    · refine lv_aload_n hx hb dX3_weightOn_14 rfl (lv_at hl 0 rfl) ?_
      refine pm_get (ci := 5) (v := .ref (a 6)) (C := RX3) (T := TX3) (N := 3) hx hb hts hin_X3 hown hw (hk.q (i := 3) (dC (by decide))) (hk.f (i := 3) (dC (by decide))) rfl 0 (by decide) (hts (.fieldLink RX3 11 "Backdater$Tariffs" "weights" "[[I") (by decide +kernel)) (fun _ h9 => h9) rfl dX3_weightOn_15 ?_
      refine lv_iload_n hx hb dX3_weightOn_18 rfl (lv_at hl 1 rfl) ?_
      refine pm_rald (n := 3) (r := (row3 a 8)) hx hb hw (hk.q (i := 6) (dC (by decide))) (hk.f (i := 6) (dC (by decide))) (j := 2) (rfl) (by unfold vp_in; decide) dX3_weightOn_19 ?_
      refine lv_iload_n hx hb dX3_weightOn_20 rfl (lv_at hl 2 rfl) ?_
      refine pm_iald (n := 365) (r := (k.1 6)) hx hb hw (hk.q (i := 10) (dC (by decide))) (hk.f (i := 10) (dC (by decide))) (j := d) (nI_clamp (by omega)) (vp_in_nI hi (by decide)) dX3_weightOn_21 ?_
      refine lv_goto (tgt := 26) hx hb dX3_weightOn_22 (by decide) ?_
      exact pr_i (v := ((k.1 6) d)) hx hb hr hlocks hw rfl ⟨Nat.le_of_ble_eq_true rfl, Nat.le_of_ble_eq_true rfl⟩ (⟨rfl, rfl⟩) dX3_weightOn_26

end TARIFFS
