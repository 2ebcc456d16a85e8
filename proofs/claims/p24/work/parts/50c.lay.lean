/-! laying versions and years -/
section MID5
abbrev knB (k : KS) (j : Nat) (kn : Int32) : Prop := (k.1 15 j).toInt ≤ kn.toInt ∧ ((k.1 16 j).toInt = -1 ∨ kn.toInt < (k.1 16 j).toInt)
/-- laying in the changes of O that hold from day d or earlier, as far as they stand in front; how many they are -/
def layS (k : KS) (kn d : Int32) : List Nat → VS → VS × Nat
  | [], st => (st, 0)
  | j :: O, st => if (k.1 13 j).toInt ≤ d.toInt then ((layS k kn d O (if knB k j kn then s_lay st (k.2.1 2 j) (k.1 12 j) (k.1 14 j) else st)).1, (layS k kn d O (if knB k j kn then s_lay st (k.2.1 2 j) (k.1 12 j) (k.1 14 j) else st)).2 + 1) else (st, 0)
theorem layS_st (k : KS) (x : VS) (kn d : Int32) : ∀ (O : List Nat) (st : VS), layS (kSt k x) kn d O st = layS k kn d O st
  | [], _ => rfl
  | j :: O, st => by
    have ih := layS_st k x kn d O
    show (if (k.1 13 j).toInt ≤ d.toInt then _ else _) = _
    rw [layS, ih]
    rfl
theorem layS_le (k : KS) (kn d : Int32) : ∀ (O : List Nat) (st : VS), (layS k kn d O st).2 ≤ O.length
  | [], _ => Nat.le_refl 0
  | j :: O, st => by
    rw [layS]
    split
    · have := layS_le k kn d O (if knB k j kn then s_lay st (k.2.1 2 j) (k.1 12 j) (k.1 14 j) else st)
      simp only [List.length_cons]
      omega
    · exact Nat.zero_le _
theorem kSt_id (k : KS) : kSt k (k.1 1, k.1 0 2) = k := by
  show kW (kV k 1 (k.1 1)) 0 2 (k.1 0 2) = k
  rw [kV_id, kW_id]
theorem kSt_kSt (k : KS) (x y : VS) : kSt (kSt k x) y = kSt k y := by
  have e : ∀ f : Nat → Nat → Int32, va_up (va_up (va_up (va_up f 1 x.1) 0 (upd (va_up f 1 x.1 0) 2 x.2)) 1 y.1) 0 (upd (va_up (va_up (va_up f 1 x.1) 0 (upd (va_up f 1 x.1 0) 2 x.2)) 1 y.1 0) 2 y.2) = va_up (va_up f 1 y.1) 0 (upd (va_up f 1 y.1 0) 2 y.2) := by
    intro f
    funext c
    by_cases h0 : c = 0
    · subst h0
      rw [pu_s, pu_s, pu_n (by decide) pu_s, pu_n (by decide) rfl, pu_n (by decide) rfl]
      funext j
      unfold upd
      by_cases hj : j = 2
      · rw [if_pos hj, if_pos hj]
      · rw [if_neg hj, if_neg hj, if_neg hj]
    · rw [pu_n h0 rfl, pu_n h0 rfl]
      by_cases h1 : c = 1
      · subst h1
        rw [pu_s, pu_s]
      · rw [pu_n h1 rfl, pu_n h0 rfl, pu_n h1 rfl, pu_n h1 rfl]
  show (va_up (va_up (va_up (va_up k.1 1 x.1) 0 (upd (va_up k.1 1 x.1 0) 2 x.2)) 1 y.1) 0 (upd (va_up (va_up (va_up k.1 1 x.1) 0 (upd (va_up k.1 1 x.1 0) 2 x.2)) 1 y.1 0) 2 y.2), k.2) = _
  rw [e]
theorem IvO.at {a : Nat → Nat} {k : KS} {i : Nat} (h : IvO a k i) {q j : Nat} (hj : (k.2.2.2 i)[q]? = some j) : k.2.2.1 (2 + i) q = some (a (32 + j)) ∧ q < k.2.1 3 (2 + i) ∧ j < kC k := by
  obtain ⟨h1, rfl⟩ := List.getElem?_eq_some_iff.mp hj
  exact ⟨h.2.1.2 q h1, by rw [h.2.1.1]; exact h1, h.2.2 _ (List.getElem_mem h1)⟩
theorem drop_c {O : List Nat} {q j : Nat} (h : O[q]? = some j) : O.drop q = j :: O.drop (q + 1) := by
  obtain ⟨h1, rfl⟩ := List.getElem?_eq_some_iff.mp h
  exact List.drop_eq_getElem_cons h1

set_option maxHeartbeats 4000000 in
set_option maxRecDepth 100000 in
theorem c_layInFrom (l : Launch) (g : GE) (L : List Nat) (f : Nat → va_E) (a : Nat → Nat) (k : KS) (hk : CW g a k L f) (i : Nat) (hpi : i < kP k) (h4 : i < 4) (ho : IvO a k i) (hkd : ∀ j, j < kC k → k.2.1 2 j < 4) (q0 : Nat) (hq0 : q0 ≤ (k.2.2.2 i).length) (d kn : Int32) : Mi l yX6_layInFrom wsX6_layInFrom (rmH 4 0 0) g L f [.ref (a 0), .ref (a (20 + 3 * i)), .int (nI q0), .int d, .int kn] (fun r u => r = nI (q0 + (layS k kn d ((k.2.2.2 i).drop q0) (k.1 1, k.1 0 2)).2) ∧ u.1 = L ∧ CW g a (kSt k (layS k kn d ((k.2.2.2 i).drop q0) (k.1 1, k.1 0 2)).1) L u.2) 0 0 := by
  intro sz
  refine Met.ofW (cc := cX6_layInFrom) (maxL := 8) (ret := (some .int)) (by decide) rfl ?_
  intro p e s m args below meth c s₁ B hml hv
  obtain ⟨rfl, hv⟩ := hv
  have hx := B.exec
  have hb := B.bytes
  have hr := B.returns
  have hts := atoms_spec (ws := wsX6_layInFrom) B.pre
  have hown : s.vm.findClass RX6 = some m.cls := findClass_of_methodNamed B.named
  have hlocks := B.notSynchronized
  obtain ⟨rfl, hw, hs⟩ := pm_begin hv
  generalize va_A (va_pl L f) s.heap.size = A at hw hs ⊢
  have CF := (⟨hx, hb, hml, hown, hts⟩ : CallFix p m c cX6_layInFrom 8 s _ wsX6_layInFrom RX6)
  have hin_X6 : ∀ w ∈ wsX60, w ∈ wsX6_layInFrom := by decide +kernel
  have hin_X2 : ∀ w ∈ wsX20, w ∈ wsX6_layInFrom := by decide +kernel
  have hin_X0 : ∀ w ∈ wsX00, w ∈ wsX6_layInFrom := by decide +kernel
  have hl := lv_entry ([.ref (a 0), .ref (a (20 + 3 * i)), .int (nI q0), .int d, .int kn]) (n := 8) (Nat.le_of_ble_eq_true rfl)
  rw [lg_entry_eq]
  generalize (lg_sl ([.ref (a 0), .ref (a (20 + 3 * i)), .int (nI q0), .int d, .int kn]) ++ List.replicate (8 - (lg_sl ([.ref (a 0), .ref (a (20 + 3 * i)), .int (nI q0), .int d, .int kn])).length) Slot.unset).toArray = ls at hl ⊢
  have hl : lv_has ls 8 [(0, .ref (a 0)), (1, .ref (a (20 + 3 * i))), (2, .int (nI q0)), (3, .int d), (4, .int kn)] := hl
  have hsz9 := ho.2.1.1
  have hlen : (k.2.2.2 i).length ≤ 60 := by have h1 := ho.2.1.1; have h2 := ho.1; omega
  refine lv_aload_n hx hb dX6_layInFrom_0 rfl (lv_at hl 1 rfl) ?_
  refine pm_get (ci := 4) (v := .ref (a (21 + 3 * i))) (C := RX2) (T := TX2) (N := 3) hx hb hts hin_X2 hown hw (hk.q (dP hpi h4)) ((hk.f (dP hpi h4)).trans (fP g a _ h4)) rfl 1 (by decide) (hts (.fieldLink RX6 124 "Backdater$Policy" "inOrder" "Ljava/util/List;") (by decide +kernel)) (fun _ h9 => h9) rfl dX6_layInFrom_1 ?_
  refine lv_astore (lv' := [(5, .ref (a (21 + 3 * i))), (0, .ref (a 0)), (1, .ref (a (20 + 3 * i))), (2, .int (nI q0)), (3, .int d), (4, .int kn)]) hx hb dX6_layInFrom_4 hl (by decide) rfl (fun ls hl => ?_)
  refine lv_iload_n hx hb dX6_layInFrom_6 rfl (lv_at hl 3 rfl) ?_
  refine lv_iconst (v := 0) hx hb dX6_layInFrom_7 (by decide) ?_
  refine va_mmax hx hb (hml.trans hl.1.symm) hown (hts (.methodLink RX6 213 Lib.Math.max.name) (by decide +kernel)) (hts (.static Lib.Math.max.name) (by decide +kernel)) (hts (.initialized "java/lang/Math") (by decide +kernel)) (hts (.code Lib.Math.max.name Lib.Math.max.code 2 (some .int)) (by decide +kernel)) (Nat.le_of_ble_eq_true rfl) (Nat.le_of_ble_eq_true rfl) (Nat.le_of_ble_eq_true rfl) (Nat.le_of_ble_eq_true rfl) dX6_layInFrom_8 ?_
  rw [if_neg (nI_pos (by omega))]
  refine lv_istore (lv' := [(6, .int (nI q0)), (5, .ref (a (21 + 3 * i))), (0, .ref (a 0)), (1, .ref (a (20 + 3 * i))), (2, .int (nI q0)), (3, .int d), (4, .int kn)]) hx hb dX6_layInFrom_11 hl (by decide) rfl (fun ls hl => ?_)
  have hk : CW g a (kSt k (k.1 1, k.1 0 2)) L f := by rw [kSt_id]; exact hk
  refine W_loop (σ := Nat × VS) (fun ⟨q, st⟩ H locs ls => ∃ f1 : Nat → va_E, (q ≤ (k.2.2.2 i).length ∧ (layS k kn d ((k.2.2.2 i).drop q) st).1 = (layS k kn d ((k.2.2.2 i).drop q0) (k.1 1, k.1 0 2)).1 ∧ q + (layS k kn d ((k.2.2.2 i).drop q) st).2 = q0 + (layS k kn d ((k.2.2.2 i).drop q0) (k.1 1, k.1 0 2)).2) ∧ CW g a (kSt k st) L f1 ∧ PW g A s H locs L f1 ∧ lv_has ls 8 [(6, .int (nI q)), (0, .ref (a 0)), (1, .ref (a (20 + 3 * i))), (3, .int d), (4, .int kn), (5, .ref (a (21 + 3 * i)))]) (fun ⟨q, st⟩ => (k.2.2.2 i).length - q) (q0, (k.1 1, k.1 0 2)) ⟨_, ⟨hq0, rfl, rfl⟩, hk, hw, lv_sub hl [0, 2, 3, 5, 6, 1] rfl⟩ ?_
  rintro ⟨q, st⟩ H locs ls ⟨f1, ⟨hql, hlay⟩, hk, hw, hl⟩ ih_13
  have hLP : LsT g L f1 (a (21 + 3 * i)) (k.1 17 (2 + i)) (lea g a k (2 + i) (22 + 3 * i)) (k.2.1 3 (2 + i)) (k.2.1 4 (2 + i)) (k.2.2.1 (2 + i)) := CW.lsP (k := kSt k st) hk ho hpi h4
  refine lv_iload hx hb dX6_layInFrom_13 (lv_at hl 0 rfl) ?_
  refine lv_aload hx hb dX6_layInFrom_15 (lv_at hl 5 rfl) ?_
  refine pc_Fi hw (va_runF (As := []) (rest := [.int (nI q)]) (hw.1.1 2 _ rfl).2 CF (c_size l g _ _ (a (21 + 3 * i)) _ _ _ hLP.q hLP.f _) (va_cwF 0 hts gX6_layInFrom_Jx4a65c_size_8abf5_f48Jx4a65c rfl rfl rfl hs.2.2.2.2.2.2.1.1 (by decide +kernel) ⟨Nat.le_of_ble_eq_true rfl, Nat.le_of_ble_eq_true rfl⟩) (pm_preV hw hs (pm_recv hw (hk.q (dPl hpi h4)) ((hk.f (dPl hpi h4)).trans (fPl g a _ h4)) rfl)) rfl rfl hl.1 rfl (lv_room (Nat.le_of_ble_eq_true rfl)) dX6_layInFrom_17 ⟨Nat.le_of_ble_eq_true rfl, Nat.le_of_ble_eq_true rfl⟩) (fun r L1 f1 H locs hp hw => ?_)
  obtain ⟨hE_17, hu⟩ := hp
  obtain rfl : _ = L1 := (congrArg Prod.fst hu).symm
  obtain rfl : _ = f1 := (congrArg Prod.snd hu).symm
  generalize r = r_17 at hE_17 ⊢
  refine lv_icmp_ge (tgt := 83) hx hb dX6_layInFrom_22 (by decide) (fun c_22 => ?_) (fun c_22 => ?_)
  · have hfin : (k.2.2.2 i).drop q = [] := by
      rw [hE_17, nI_leI (by omega) (by omega)] at c_22
      exact List.drop_eq_nil_of_le (by have := ho.2.1.1; exact Nat.le_trans (Nat.le_of_eq this.symm) c_22)
    have hst : st = (layS k kn d ((k.2.2.2 i).drop q0) (k.1 1, k.1 0 2)).1 := by rw [← hlay.1, hfin]; rfl
    have hqf : q = q0 + (layS k kn d ((k.2.2.2 i).drop q0) (k.1 1, k.1 0 2)).2 := by rw [← hlay.2, hfin]; rfl
    refine lv_iload hx hb dX6_layInFrom_83 (lv_at hl 0 rfl) ?_
    exact pr_i (v := (nI q)) hx hb hr hlocks hw rfl ⟨Nat.le_of_ble_eq_true rfl, Nat.le_of_ble_eq_true rfl⟩ (⟨by rw [← hqf], rfl, by rw [← hst]; exact hk⟩) dX6_layInFrom_85
  · obtain ⟨j, hjO⟩ : ∃ j, (k.2.2.2 i)[q]? = some j := by
      rw [hE_17, nI_leI (by have := ho.1.2.2; exact Nat.lt_of_le_of_lt this (by decide)) (by omega)] at c_22
      exact ⟨_, List.getElem?_eq_getElem (by have h9 := ho.2.1.1; have h8 : ¬ k.2.1 3 (2 + i) ≤ q := c_22; omega)⟩
    obtain ⟨hat, hqs, hjc⟩ := ho.at hjO
    refine lv_aload hx hb dX6_layInFrom_25 (lv_at hl 5 rfl) ?_
    refine lv_iload hx hb dX6_layInFrom_27 (lv_at hl 0 rfl) ?_
    refine pc_Fq hw (va_runF (As := [.int (nI q)]) (rest := []) (hw.1.1 2 _ rfl).2 CF (c_get l g L _ (a (21 + 3 * i)) _ _ _ hLP.q hLP.f _ _ (hLP.r (by omega)).1 (hLP.r (by omega)).2 q (hqs) ⟨hLP.2.2.2.1, by have := hLP.2.2.2.2.1; omega⟩ _) (va_cwF 1 hts gX6_layInFrom_Jx4a65c_get_915e3_f127Jx4a65c rfl rfl rfl hs.2.2.2.2.2.2.1.2.1 (by decide +kernel) ⟨Nat.le_of_ble_eq_true rfl, Nat.le_of_ble_eq_true rfl⟩) (pm_preV hw hs (pm_recv hw (hk.q (dPl hpi h4)) ((hk.f (dPl hpi h4)).trans (fPl g a _ h4)) rfl)) rfl rfl hl.1 rfl (lv_room (Nat.le_of_ble_eq_true rfl)) dX6_layInFrom_29 ⟨Nat.le_of_ble_eq_true rfl, Nat.le_of_ble_eq_true rfl⟩) (fun r L1 f1 H locs hp hw => ?_)
    obtain ⟨hE_29, hu⟩ := hp
    obtain rfl : _ = L1 := (congrArg Prod.fst hu).symm
    obtain rfl : _ = f1 := (congrArg Prod.snd hu).symm
    obtain rfl : r = some (a (32 + j)) := hE_29.trans (hat)
    refine va_castY (C := "Backdater$Change") hx hb hown (hts (.classLink RX6 111 "Backdater$Change") (by decide +kernel)) (hs.2.2.2.1 ("Backdater$Change", "Backdater$Change") (by decide +kernel)) (pm_recv hw (hk.q (dCh hjc)) ((hk.f (dCh hjc)).trans (fCh g a _ j)) rfl) dX6_layInFrom_34 ?_
    refine pm_get (ci := 3) (v := .int (k.1 13 j)) (C := RX0) (T := TX0) (N := 8) hx hb hts hin_X0 hown hw (hk.q (dCh hjc)) ((hk.f (dCh hjc)).trans (fCh g a _ j)) rfl 4 (by decide) (hts (.fieldLink RX6 134 "Backdater$Change" "from" "I") (by decide +kernel)) (fun _ h9 => h9) rfl dX6_layInFrom_37 ?_
    refine lv_iload_n hx hb dX6_layInFrom_40 rfl (lv_at hl 3 rfl) ?_
    refine lv_icmp_gt (tgt := 83) hx hb dX6_layInFrom_41 (by decide) (fun c_41 => ?_) (fun c_41 => ?_)
    · have hfr : ¬ (k.1 13 j).toInt ≤ d.toInt := by rw [i32_lt] at c_41; exact fun q9 => by have : d.toInt < (k.1 13 j).toInt := c_41; omega
      have hst : st = (layS k kn d ((k.2.2.2 i).drop q0) (k.1 1, k.1 0 2)).1 := by rw [← hlay.1, drop_c hjO, layS, if_neg hfr]
      have hqf : q = q0 + (layS k kn d ((k.2.2.2 i).drop q0) (k.1 1, k.1 0 2)).2 := by rw [← hlay.2, drop_c hjO, layS, if_neg hfr]; rfl
      refine lv_iload hx hb dX6_layInFrom_83 (lv_at hl 0 rfl) ?_
      exact pr_i (v := (nI q)) hx hb hr hlocks hw rfl ⟨Nat.le_of_ble_eq_true rfl, Nat.le_of_ble_eq_true rfl⟩ (⟨by rw [← hqf], rfl, by rw [← hst]; exact hk⟩) dX6_layInFrom_85
    · have hfr : (k.1 13 j).toInt ≤ d.toInt := by rw [i32_lt] at c_41; have : ¬ d.toInt < (k.1 13 j).toInt := c_41; omega
      refine lv_aload hx hb dX6_layInFrom_44 (lv_at hl 5 rfl) ?_
      refine lv_iload hx hb dX6_layInFrom_46 (lv_at hl 0 rfl) ?_
      refine pc_Fq hw (va_runF (As := [.int (nI q)]) (rest := []) (hw.1.1 2 _ rfl).2 CF (c_get l g L _ (a (21 + 3 * i)) _ _ _ hLP.q hLP.f _ _ (hLP.r (by omega)).1 (hLP.r (by omega)).2 q (hqs) ⟨hLP.2.2.2.1, by have := hLP.2.2.2.2.1; omega⟩ _) (va_cwF 1 hts gX6_layInFrom_Jx4a65c_get_915e3_f127Jx4a65c rfl rfl rfl hs.2.2.2.2.2.2.1.2.1 (by decide +kernel) ⟨Nat.le_of_ble_eq_true rfl, Nat.le_of_ble_eq_true rfl⟩) (pm_preV hw hs (pm_recv hw (hk.q (dPl hpi h4)) ((hk.f (dPl hpi h4)).trans (fPl g a _ h4)) rfl)) rfl rfl hl.1 rfl (lv_room (Nat.le_of_ble_eq_true rfl)) dX6_layInFrom_48 ⟨Nat.le_of_ble_eq_true rfl, Nat.le_of_ble_eq_true rfl⟩) (fun r L1 f1 H locs hp hw => ?_)
      obtain ⟨hE_48, hu⟩ := hp
      obtain rfl : _ = L1 := (congrArg Prod.fst hu).symm
      obtain rfl : _ = f1 := (congrArg Prod.snd hu).symm
      obtain rfl : r = some (a (32 + j)) := hE_48.trans (hat)
      refine va_castY (C := "Backdater$Change") hx hb hown (hts (.classLink RX6 111 "Backdater$Change") (by decide +kernel)) (hs.2.2.2.1 ("Backdater$Change", "Backdater$Change") (by decide +kernel)) (pm_recv hw (hk.q (dCh hjc)) ((hk.f (dCh hjc)).trans (fCh g a _ j)) rfl) dX6_layInFrom_53 ?_
      refine lv_astore (lv' := [(7, .ref (a (32 + j))), (6, .int (nI q)), (0, .ref (a 0)), (1, .ref (a (20 + 3 * i))), (3, .int d), (4, .int kn), (5, .ref (a (21 + 3 * i)))]) hx hb dX6_layInFrom_56 hl (by decide) rfl (fun ls hl => ?_)
      refine lv_aload hx hb dX6_layInFrom_58 (lv_at hl 0 rfl) ?_
      refine lv_iload hx hb dX6_layInFrom_60 (lv_at hl 5 rfl) ?_
      refine pc_i hw (va_runV (As := [.int kn]) (rest := []) CF (c_isKnownOn l g L _ (a (32 + j)) _ _ _ _ _ _ _ _ kn (hk.q (dCh hjc)) ((hk.f (dCh hjc)).trans (fCh g a _ j)) _) (cwV 1 hts gX6_layInFrom_X0_isKnownOn rfl rfl rfl (by decide +kernel) ⟨Nat.le_of_ble_eq_true rfl, Nat.le_of_ble_eq_true rfl⟩) (pm_preV hw hs (pm_recv hw (hk.q (dCh hjc)) ((hk.f (dCh hjc)).trans (fCh g a _ j)) rfl)) rfl rfl hl.1 rfl (lv_room (Nat.le_of_ble_eq_true rfl)) dX6_layInFrom_62 ⟨Nat.le_of_ble_eq_true rfl, Nat.le_of_ble_eq_true rfl⟩) (fun r L1 f1 H locs hp hw => ?_)
      obtain ⟨hE_62, hu⟩ := hp
      obtain rfl : _ = L1 := (congrArg Prod.fst hu).symm
      obtain rfl : _ = f1 := (congrArg Prod.snd hu).symm
      generalize r = r_62 at hE_62 ⊢
      refine lv_if_eq (tgt := 77) hx hb dX6_layInFrom_65 (by decide) (fun c_65 => ?_) (fun c_65 => ?_)
      · have hkn : ¬ knB k j kn := b2i_eq0 (hE_62 ▸ c_65)
        refine lv_iinc (v := (nI (q + 1))) (lv' := [(6, .int (nI (q + 1))), (7, .ref (a (32 + j))), (0, .ref (a 0)), (1, .ref (a (20 + 3 * i))), (3, .int d), (4, .int kn), (5, .ref (a (21 + 3 * i)))]) hx hb dX6_layInFrom_77 hl (k := 1) rfl (nI_1 q) (by decide) rfl (fun ls hl => ?_)
        refine lv_goto (tgt := 13) hx hb dX6_layInFrom_80 (by decide) ?_
        have hl9 := hlay
        rw [drop_c hjO, layS, if_pos hfr, if_neg hkn] at hl9
        exact ih_13 (q + 1, st) _ _ _ (by dsimp only; omega) ⟨_, ⟨by omega, hl9.1, by have := hl9.2; dsimp only at this; omega⟩, hk, hw, lv_sub hl [0, 2, 3, 4, 5, 6] rfl⟩
      · have hkn : knB k j kn := b2i_ne0 (hE_62 ▸ c_65)
        refine lv_aload_n hx hb dX6_layInFrom_68 rfl (lv_at hl 2 rfl) ?_
        refine pm_get (ci := 8) (v := .ref (a 4)) (C := RX6) (T := TX6) (N := 6) hx hb hts hin_X6 hown hw (hk.q (i := 0) (dC (by decide))) (hk.f (i := 0) (dC (by decide))) rfl 3 (by decide) (hts (.fieldLink RX6 29 "Backdater" "version" "LBackdater$Version;") (by decide +kernel)) (fun _ h9 => h9) rfl dX6_layInFrom_69 ?_
        refine lv_aload hx hb dX6_layInFrom_72 (lv_at hl 0 rfl) ?_
        refine pc_v hw (va_runV (As := [.ref (a (32 + j))]) (rest := []) CF ((c_layIn l g L _ a (kSt k st) hk j hjc (hkd j hjc)) _) (cwV 1 hts gX6_layInFrom_X4_layIn rfl rfl rfl (by decide +kernel) ⟨Nat.le_of_ble_eq_true rfl, Nat.le_of_ble_eq_true rfl⟩) (pm_preV hw hs (pm_recv hw (hk.q (i := 4) (dC (by decide))) (hk.f (i := 4) (dC (by decide))) rfl)) rfl rfl hl.1 rfl (lv_room (Nat.le_of_ble_eq_true rfl)) dX6_layInFrom_74 ⟨Nat.le_of_ble_eq_true rfl, Nat.le_of_ble_eq_true rfl⟩) (fun L1 f1 H locs hp hw => ?_)
        obtain ⟨hu, hk⟩ := hp
        obtain rfl : _ = L1 := hu.symm
        have hk : CW g a (kSt (kSt k st) (s_lay st (k.2.1 2 j) (k.1 12 j) (k.1 14 j))) _ f1 := hk
        refine lv_iinc (v := (nI (q + 1))) (lv' := [(6, .int (nI (q + 1))), (7, .ref (a (32 + j))), (0, .ref (a 0)), (1, .ref (a (20 + 3 * i))), (3, .int d), (4, .int kn), (5, .ref (a (21 + 3 * i)))]) hx hb dX6_layInFrom_77 hl (k := 1) rfl (nI_1 q) (by decide) rfl (fun ls hl => ?_)
        refine lv_goto (tgt := 13) hx hb dX6_layInFrom_80 (by decide) ?_
        rw [kSt_kSt] at hk
        have hl9 := hlay
        rw [drop_c hjO, layS, if_pos hfr, if_pos hkn] at hl9
        exact ih_13 (q + 1, (s_lay st (k.2.1 2 j) (k.1 12 j) (k.1 14 j))) _ _ _ (by dsimp only; omega) ⟨_, ⟨by omega, hl9.1, by have := hl9.2; dsimp only at this; omega⟩, hk, hw, lv_sub hl [0, 2, 3, 4, 5, 6] rfl⟩

/-- the version of policy i on day d, as known on kn -/
abbrev verS (k : KS) (i : Nat) (d kn : Int32) : VS := (layS k kn d (k.2.2.2 i) (fun _ => 0, 1)).1

set_option maxHeartbeats 4000000 in
set_option maxRecDepth 100000 in
theorem c_layVersion (l : Launch) (g : GE) (L : List Nat) (f : Nat → va_E) (a : Nat → Nat) (k : KS) (hk : CW g a k L f) (i : Nat) (hpi : i < kP k) (h4 : i < 4) (ho : IvO a k i) (hkd : ∀ j, j < kC k → k.2.1 2 j < 4) (d kn : Int32) : Mv l yX6_layVersion wsX6_layVersion (rmH 5 0 0) g L f [.ref (a 0), .ref (a (20 + 3 * i)), .int d, .int kn] (fun u => u.1 = L ∧ CW g a (kSt k (verS k i d kn)) L u.2) 0 0 := by
  intro sz
  refine Met.ofW (cc := cX6_layVersion) (maxL := 4) (ret := none) (by decide) rfl ?_
  intro p e s m args below meth c s₁ B hml hv
  obtain ⟨rfl, hv⟩ := hv
  have hx := B.exec
  have hb := B.bytes
  have hr := B.returns
  have hts := atoms_spec (ws := wsX6_layVersion) B.pre
  have hown : s.vm.findClass RX6 = some m.cls := findClass_of_methodNamed B.named
  have hlocks := B.notSynchronized
  obtain ⟨rfl, hw, hs⟩ := pm_begin hv
  generalize va_A (va_pl L f) s.heap.size = A at hw hs ⊢
  have CF := (⟨hx, hb, hml, hown, hts⟩ : CallFix p m c cX6_layVersion 4 s _ wsX6_layVersion RX6)
  have hin_X6 : ∀ w ∈ wsX60, w ∈ wsX6_layVersion := by decide +kernel
  have hl := lv_entry ([.ref (a 0), .ref (a (20 + 3 * i)), .int d, .int kn]) (n := 4) (Nat.le_of_ble_eq_true rfl)
  rw [lg_entry_eq]
  generalize (lg_sl ([.ref (a 0), .ref (a (20 + 3 * i)), .int d, .int kn]) ++ List.replicate (4 - (lg_sl ([.ref (a 0), .ref (a (20 + 3 * i)), .int d, .int kn])).length) Slot.unset).toArray = ls at hl ⊢
  have hl : lv_has ls 4 [(0, .ref (a 0)), (1, .ref (a (20 + 3 * i))), (2, .int d), (3, .int kn)] := hl
  refine lv_aload_n hx hb dX6_layVersion_0 rfl (lv_at hl 0 rfl) ?_
  refine pm_get (ci := 8) (v := .ref (a 4)) (C := RX6) (T := TX6) (N := 6) hx hb hts hin_X6 hown hw (hk.q (i := 0) (dC (by decide))) (hk.f (i := 0) (dC (by decide))) rfl 3 (by decide) (hts (.fieldLink RX6 29 "Backdater" "version" "LBackdater$Version;") (by decide +kernel)) (fun _ h9 => h9) rfl dX6_layVersion_1 ?_
  refine pc_v hw (va_runV (As := []) (rest := []) CF ((c_begin l g L _ a k hk) _) (cwV 0 hts gX6_layVersion_X4_begin rfl rfl rfl (by decide +kernel) ⟨Nat.le_of_ble_eq_true rfl, Nat.le_of_ble_eq_true rfl⟩) (pm_preV hw hs (pm_recv hw (hk.q (i := 4) (dC (by decide))) (hk.f (i := 4) (dC (by decide))) rfl)) rfl rfl hl.1 rfl (lv_room (Nat.le_of_ble_eq_true rfl)) dX6_layVersion_4 ⟨Nat.le_of_ble_eq_true rfl, Nat.le_of_ble_eq_true rfl⟩) (fun L1 f1 H locs hp hw => ?_)
  obtain ⟨hu, hk⟩ := hp
  obtain rfl : _ = L1 := hu.symm
  have hk : CW g a (kSt k (fun _ => 0, 1)) _ f1 := hk
  refine lv_aload_n hx hb dX6_layVersion_7 rfl (lv_at hl 0 rfl) ?_
  refine lv_aload_n hx hb dX6_layVersion_8 rfl (lv_at hl 1 rfl) ?_
  refine lv_iconst (v := 0) hx hb dX6_layVersion_9 (by decide) ?_
  refine lv_iload_n hx hb dX6_layVersion_10 rfl (lv_at hl 2 rfl) ?_
  refine lv_iload_n hx hb dX6_layVersion_11 rfl (lv_at hl 3 rfl) ?_
  refine pc_i hw (va_runV (As := [.ref (a (20 + 3 * i)), .int 0, .int d, .int kn]) (rest := []) CF (c_layInFrom l g L _ a (kSt k (fun _ => 0, 1)) hk i hpi h4 ho hkd 0 (Nat.zero_le _) d kn _) (cwV 4 hts gX6_layVersion_X6_layInFrom rfl rfl rfl (by decide +kernel) ⟨Nat.le_of_ble_eq_true rfl, Nat.le_of_ble_eq_true rfl⟩) (pm_preV hw hs (pm_recv hw (hk.q (i := 0) (dC (by decide))) (hk.f (i := 0) (dC (by decide))) rfl)) rfl rfl hl.1 rfl (lv_room (Nat.le_of_ble_eq_true rfl)) dX6_layVersion_12 ⟨Nat.le_of_ble_eq_true rfl, Nat.le_of_ble_eq_true rfl⟩) (fun r L1 f1 H locs hp hw => ?_)
  obtain ⟨-, hu, hk⟩ := hp
  obtain rfl : _ = L1 := hu.symm
  rw [layS_st, kSt_kSt] at hk
  have hk : CW g a (kSt k (verS k i d kn)) _ f1 := hk
  refine lv_pop hx hb dX6_layVersion_15 rfl ?_
  exact pr_v hx hb hr hlocks hw ⟨Nat.le_of_ble_eq_true rfl, Nat.le_of_ble_eq_true rfl⟩ (⟨rfl, hk⟩) dX6_layVersion_16

end MID5
