/-! telling a change -/
section TELL
/-- the place that a change from day x gets among the first n of O -/
def insP (v : Nat → Int32) (x : Int32) (O : List Nat) : Nat → Nat
  | 0 => 0
  | n + 1 => if x.toInt < (v (O.getD n 0)).toInt then insP v x O n else n + 1
theorem insP_le (v : Nat → Int32) (x : Int32) (O : List Nat) : ∀ n, insP v x O n ≤ n
  | 0 => Nat.le_refl 0
  | n + 1 => by
    rw [insP]
    split
    · exact Nat.le_succ_of_le (insP_le v x O n)
    · exact Nat.le_refl _
theorem insP_go {v : Nat → Int32} {x : Int32} {O : List Nat} {p o : Nat} (hp : 0 < p) (ho : O[p - 1]? = some o) (h : x.toInt < (v o).toInt) : insP v x O p = insP v x O (p - 1) := by
  obtain ⟨m, rfl⟩ : ∃ m, p = m + 1 := ⟨p - 1, by omega⟩
  have e : O.getD m 0 = o := by
    rw [List.getD_eq_getElem?_getD, show O[m]? = some o from ho]
    rfl
  rw [insP, e, if_pos h]
  rfl
theorem insP_st {v : Nat → Int32} {x : Int32} {O : List Nat} {p o : Nat} (hp : 0 < p) (ho : O[p - 1]? = some o) (h : ¬ x.toInt < (v o).toInt) : insP v x O p = p := by
  obtain ⟨m, rfl⟩ : ∃ m, p = m + 1 := ⟨p - 1, by omega⟩
  have e : O.getD m 0 = o := by
    rw [List.getD_eq_getElem?_getD, show O[m]? = some o from ho]
    rfl
  rw [insP, e, if_neg h]
theorem insP_c {v v' : Nat → Int32} {x : Int32} {O : List Nat} : ∀ n, (∀ q, q < n → v (O.getD q 0) = v' (O.getD q 0)) → insP v x O n = insP v' x O n
  | 0, _ => rfl
  | n + 1, h => by
    rw [insP, insP, h n (Nat.lt_succ_self n), insP_c n (fun q hq => h q (Nat.lt_succ_of_lt hq))]
def insO (v : Nat → Int32) (x : Int32) (n : Nat) (O : List Nat) : List Nat := O.take (insP v x O O.length) ++ n :: O.drop (insP v x O O.length)
theorem nI_m {p : Nat} (h : 0 < p) : nI p + -1 = nI (p - 1) := by
  rw [← nI_i1 h]
  exact (Int32.sub_eq_add_neg _ _).symm

set_option maxHeartbeats 4000000 in
set_option maxRecDepth 100000 in
theorem c_putInOrder (l : Launch) (g : GE) (L : List Nat) (f : Nat → va_E) (a : Nat → Nat) (k : KS) (hk : CW g a k L f) (i : Nat) (hpi : i < kP k) (h4 : i < 4) (j : Nat) (hjc : j < kC k) (O : List Nat) (hsz : k.2.1 3 (2 + i) ≤ k.2.1 4 (2 + i) ∧ k.2.1 4 (2 + i) ≤ 100 ∧ k.2.1 3 (2 + i) ≤ 60) (hO : k.2.1 3 (2 + i) = O.length) (hat0 : ∀ q o, O[q]? = some o → k.2.2.1 (2 + i) q = some (a (32 + o)) ∧ o < kC k) : Mv l yX2_putInOrder wsX2_putInOrder (rmH 6 1 200) g L f [.ref (a (20 + 3 * i)), .ref (a (32 + j))] (fun u => AddP g L f (a (21 + 3 * i)) (k.1 17 (2 + i) + 1) (lea g a k (2 + i) (22 + 3 * i)) (k.2.1 3 (2 + i)) (insT (k.2.2.1 (2 + i)) (insP (k.1 13) (k.1 13 j) O O.length) (a (32 + j))) u) 1 200 := by
  intro sz
  refine Met.ofW (cc := cX2_putInOrder) (maxL := 3) (ret := none) (by decide) rfl ?_
  intro p e s m args below meth c s₁ B hml hv
  obtain ⟨rfl, hv⟩ := hv
  have hx := B.exec
  have hb := B.bytes
  have hr := B.returns
  have hts := atoms_spec (ws := wsX2_putInOrder) B.pre
  have hown : s.vm.findClass RX2 = some m.cls := findClass_of_methodNamed B.named
  have hlocks := B.notSynchronized
  obtain ⟨rfl, hw, hs⟩ := pm_begin hv
  generalize va_A (va_pl L f) s.heap.size = A at hw hs ⊢
  have CF := (⟨hx, hb, hml, hown, hts⟩ : CallFix p m c cX2_putInOrder 3 s _ wsX2_putInOrder RX2)
  have hin_X2 : ∀ w ∈ wsX20, w ∈ wsX2_putInOrder := by decide +kernel
  have hin_X0 : ∀ w ∈ wsX00, w ∈ wsX2_putInOrder := by decide +kernel
  have hl := lv_entry ([.ref (a (20 + 3 * i)), .ref (a (32 + j))]) (n := 3) (Nat.le_of_ble_eq_true rfl)
  rw [lg_entry_eq]
  generalize (lg_sl ([.ref (a (20 + 3 * i)), .ref (a (32 + j))]) ++ List.replicate (3 - (lg_sl ([.ref (a (20 + 3 * i)), .ref (a (32 + j))])).length) Slot.unset).toArray = ls at hl ⊢
  have hl : lv_has ls 3 [(0, .ref (a (20 + 3 * i))), (1, .ref (a (32 + j)))] := hl
  have hLP : LsT g L f (a (21 + 3 * i)) (k.1 17 (2 + i)) (lea g a k (2 + i) (22 + 3 * i)) (k.2.1 3 (2 + i)) (k.2.1 4 (2 + i)) (k.2.2.1 (2 + i)) := hk.lst (2 + i) (21 + 3 * i) (22 + 3 * i) (dPl hpi h4) (fPl g a k h4) (fun h => dPa hpi h4 h) (fPa g a k h4) hsz (fun x hx y hy => by
    have hx9 : x < O.length := by omega
    have h9 := hat0 x _ (List.getElem?_eq_getElem hx9)
    rw [h9.1] at hy
    cases hy
    exact hk.okC h9.2)
  have hlen : O.length ≤ 60 := by omega
  refine lv_aload_n hx hb dX2_putInOrder_0 rfl (lv_at hl 0 rfl) ?_
  refine pm_get (ci := 4) (v := .ref (a (21 + 3 * i))) (C := RX2) (T := TX2) (N := 3) hx hb hts hin_X2 hown hw (hk.q (dP hpi h4)) ((hk.f (dP hpi h4)).trans (fP g a _ h4)) rfl 1 (by decide) (hts (.fieldLink RX2 10 "Backdater$Policy" "inOrder" "Ljava/util/List;") (by decide +kernel)) (fun _ h9 => h9) rfl dX2_putInOrder_1 ?_
  refine pc_Fi hw (va_runF (As := []) (rest := []) (hw.1.1 2 _ rfl).2 CF (c_size l g L _ (a (21 + 3 * i)) _ _ _ hLP.q hLP.f _) (va_cwF 0 hts gX2_putInOrder_Jx4a65c_size_8abf5_f23Jx4a65c rfl rfl rfl hs.2.2.2.2.2.2.1.1 (by decide +kernel) ⟨Nat.le_of_ble_eq_true rfl, Nat.le_of_ble_eq_true rfl⟩) (pm_preV hw hs (pm_recv hw (hk.q (dPl hpi h4)) ((hk.f (dPl hpi h4)).trans (fPl g a _ h4)) rfl)) rfl rfl hl.1 rfl (lv_room (Nat.le_of_ble_eq_true rfl)) dX2_putInOrder_4 ⟨Nat.le_of_ble_eq_true rfl, Nat.le_of_ble_eq_true rfl⟩) (fun r L1 f1 H locs hp hw => ?_)
  obtain ⟨hE_4, hu⟩ := hp
  obtain rfl : _ = L1 := (congrArg Prod.fst hu).symm
  obtain rfl : _ = f1 := (congrArg Prod.snd hu).symm
  rw [hO] at hE_4
  subst hE_4
  refine lv_istore_n (lv' := [(2, .int (nI O.length)), (0, .ref (a (20 + 3 * i))), (1, .ref (a (32 + j)))]) hx hb dX2_putInOrder_9 rfl hl (by decide) rfl (fun ls hl => ?_)
  refine W_loop (σ := Nat) (fun t9 H locs ls => (t9 ≤ O.length ∧ insP (k.1 13) (k.1 13 j) O t9 = insP (k.1 13) (k.1 13 j) O O.length) ∧ PW g A s H locs L _ ∧ lv_has ls 3 [(2, .int (nI t9)), (0, .ref (a (20 + 3 * i))), (1, .ref (a (32 + j)))]) (fun t9 => t9) O.length ⟨⟨Nat.le_refl _, rfl⟩, hw, lv_sub hl [0, 1, 2] rfl⟩ ?_
  rintro t9 H locs ls ⟨⟨htl, hinv⟩, hw, hl⟩ ih_10
  refine lv_iload_n hx hb dX2_putInOrder_10 rfl (lv_at hl 0 rfl) ?_
  refine lv_if_le (tgt := 45) hx hb dX2_putInOrder_11 (by decide) (fun c_11 => ?_) (fun c_11 => ?_)
  · have hp0 : t9 = 0 := by
      rw [i32_le, i32_0, nI_toInt (by omega)] at c_11
      omega
    have hins : insP (k.1 13) (k.1 13 j) O O.length = t9 := by
      rw [← hinv, hp0]
      rfl
    refine lv_aload_n hx hb dX2_putInOrder_45 rfl (lv_at hl 1 rfl) ?_
    refine pm_get (ci := 4) (v := .ref (a (21 + 3 * i))) (C := RX2) (T := TX2) (N := 3) hx hb hts hin_X2 hown hw (hk.q (dP hpi h4)) ((hk.f (dP hpi h4)).trans (fP g a _ h4)) rfl 1 (by decide) (hts (.fieldLink RX2 10 "Backdater$Policy" "inOrder" "Ljava/util/List;") (by decide +kernel)) (fun _ h9 => h9) rfl dX2_putInOrder_46 ?_
    refine lv_iload_n hx hb dX2_putInOrder_49 rfl (lv_at hl 0 rfl) ?_
    refine lv_aload_n hx hb dX2_putInOrder_50 rfl (lv_at hl 2 rfl) ?_
    refine pc_Fv hw (va_runF (As := [.int (nI t9), .ref (a (32 + j))]) (rest := []) (hw.1.1 2 _ rfl).2 CF (c_addAt l g L _ (a (21 + 3 * i)) _ _ _ _ _ hLP (a (32 + j)) (hk.okC hjc) t9 (by omega) _) (va_cwF 2 hts gX2_putInOrder_Jx4a65c_add_7a177_f38Jx4a65c rfl rfl rfl hs.2.2.2.2.2.2.1.2.2.2 (by decide +kernel) ⟨Nat.le_of_ble_eq_true rfl, Nat.le_of_ble_eq_true rfl⟩) (pm_preV hw hs (pm_recv hw (hk.q (dPl hpi h4)) ((hk.f (dPl hpi h4)).trans (fPl g a _ h4)) rfl)) rfl rfl hl.1 rfl (lv_room (Nat.le_of_ble_eq_true rfl)) dX2_putInOrder_51 ⟨Nat.le_of_ble_eq_true rfl, Nat.le_of_ble_eq_true rfl⟩) (fun L1 f1 H locs hp hw => ?_)
    exact pr_v hx hb hr hlocks hw ⟨Nat.le_of_ble_eq_true rfl, Nat.le_of_ble_eq_true rfl⟩ (by rw [hins]; exact hp) dX2_putInOrder_56
  · have hp1 : 0 < t9 := by
      rw [i32_le, i32_0, nI_toInt (by omega)] at c_11
      omega
    obtain ⟨o, hpo⟩ : ∃ o, O[t9 - 1]? = some o := ⟨_, List.getElem?_eq_getElem (by omega)⟩
    obtain ⟨hat, hoc⟩ := hat0 _ _ hpo
    refine lv_aload_n hx hb dX2_putInOrder_14 rfl (lv_at hl 1 rfl) ?_
    refine pm_get (ci := 4) (v := .ref (a (21 + 3 * i))) (C := RX2) (T := TX2) (N := 3) hx hb hts hin_X2 hown hw (hk.q (dP hpi h4)) ((hk.f (dP hpi h4)).trans (fP g a _ h4)) rfl 1 (by decide) (hts (.fieldLink RX2 10 "Backdater$Policy" "inOrder" "Ljava/util/List;") (by decide +kernel)) (fun _ h9 => h9) rfl dX2_putInOrder_15 ?_
    refine lv_iload_n hx hb dX2_putInOrder_18 rfl (lv_at hl 0 rfl) ?_
    refine lv_iconst (v := 1) hx hb dX2_putInOrder_19 (by decide) ?_
    refine lv_isub hx hb dX2_putInOrder_20 ?_
    rw [nI_i1 hp1]
    refine pc_Fq hw (va_runF (As := [.int (nI (t9 - 1))]) (rest := []) (hw.1.1 2 _ rfl).2 CF (c_get l g L _ (a (21 + 3 * i)) _ _ _ hLP.q hLP.f _ _ (hLP.r (by omega)).1 (hLP.r (by omega)).2 (t9 - 1) (by omega) ⟨hLP.2.2.2.1, by have := hLP.2.2.2.2.1; omega⟩ _) (va_cwF 1 hts gX2_putInOrder_Jx4a65c_get_915e3_f29Jx4a65c rfl rfl rfl hs.2.2.2.2.2.2.1.2.1 (by decide +kernel) ⟨Nat.le_of_ble_eq_true rfl, Nat.le_of_ble_eq_true rfl⟩) (pm_preV hw hs (pm_recv hw (hk.q (dPl hpi h4)) ((hk.f (dPl hpi h4)).trans (fPl g a _ h4)) rfl)) rfl rfl hl.1 rfl (lv_room (Nat.le_of_ble_eq_true rfl)) dX2_putInOrder_21 ⟨Nat.le_of_ble_eq_true rfl, Nat.le_of_ble_eq_true rfl⟩) (fun r L1 f1 H locs hp hw => ?_)
    obtain ⟨hE_21, hu⟩ := hp
    obtain rfl : _ = L1 := (congrArg Prod.fst hu).symm
    obtain rfl : _ = f1 := (congrArg Prod.snd hu).symm
    obtain rfl : r = some (a (32 + o)) := hE_21.trans (hat)
    refine va_castY (C := "Backdater$Change") hx hb hown (hts (.classLink RX2 33 "Backdater$Change") (by decide +kernel)) (hs.2.2.2.1 ("Backdater$Change", "Backdater$Change") (by decide +kernel)) (pm_recv hw (hk.q (dCh hoc)) ((hk.f (dCh hoc)).trans (fCh g a _ o)) rfl) dX2_putInOrder_26 ?_
    refine pm_get (ci := 3) (v := .int (k.1 13 o)) (C := RX0) (T := TX0) (N := 8) hx hb hts hin_X0 hown hw (hk.q (dCh hoc)) ((hk.f (dCh hoc)).trans (fCh g a _ o)) rfl 4 (by decide) (hts (.fieldLink RX2 35 "Backdater$Change" "from" "I") (by decide +kernel)) (fun _ h9 => h9) rfl dX2_putInOrder_29 ?_
    refine lv_aload_n hx hb dX2_putInOrder_32 rfl (lv_at hl 2 rfl) ?_
    refine pm_get (ci := 3) (v := .int (k.1 13 j)) (C := RX0) (T := TX0) (N := 8) hx hb hts hin_X0 hown hw (hk.q (dCh hjc)) ((hk.f (dCh hjc)).trans (fCh g a _ j)) rfl 4 (by decide) (hts (.fieldLink RX2 35 "Backdater$Change" "from" "I") (by decide +kernel)) (fun _ h9 => h9) rfl dX2_putInOrder_33 ?_
    refine lv_icmp_le (tgt := 45) hx hb dX2_putInOrder_36 (by decide) (fun c_36 => ?_) (fun c_36 => ?_)
    · have hins : insP (k.1 13) (k.1 13 j) O O.length = t9 := by
        rw [← hinv]
        exact insP_st hp1 hpo (by rw [i32_le] at c_36; omega)
      refine lv_aload_n hx hb dX2_putInOrder_45 rfl (lv_at hl 1 rfl) ?_
      refine pm_get (ci := 4) (v := .ref (a (21 + 3 * i))) (C := RX2) (T := TX2) (N := 3) hx hb hts hin_X2 hown hw (hk.q (dP hpi h4)) ((hk.f (dP hpi h4)).trans (fP g a _ h4)) rfl 1 (by decide) (hts (.fieldLink RX2 10 "Backdater$Policy" "inOrder" "Ljava/util/List;") (by decide +kernel)) (fun _ h9 => h9) rfl dX2_putInOrder_46 ?_
      refine lv_iload_n hx hb dX2_putInOrder_49 rfl (lv_at hl 0 rfl) ?_
      refine lv_aload_n hx hb dX2_putInOrder_50 rfl (lv_at hl 2 rfl) ?_
      refine pc_Fv hw (va_runF (As := [.int (nI t9), .ref (a (32 + j))]) (rest := []) (hw.1.1 2 _ rfl).2 CF (c_addAt l g L _ (a (21 + 3 * i)) _ _ _ _ _ hLP (a (32 + j)) (hk.okC hjc) t9 (by omega) _) (va_cwF 2 hts gX2_putInOrder_Jx4a65c_add_7a177_f38Jx4a65c rfl rfl rfl hs.2.2.2.2.2.2.1.2.2.2 (by decide +kernel) ⟨Nat.le_of_ble_eq_true rfl, Nat.le_of_ble_eq_true rfl⟩) (pm_preV hw hs (pm_recv hw (hk.q (dPl hpi h4)) ((hk.f (dPl hpi h4)).trans (fPl g a _ h4)) rfl)) rfl rfl hl.1 rfl (lv_room (Nat.le_of_ble_eq_true rfl)) dX2_putInOrder_51 ⟨Nat.le_of_ble_eq_true rfl, Nat.le_of_ble_eq_true rfl⟩) (fun L1 f1 H locs hp hw => ?_)
      exact pr_v hx hb hr hlocks hw ⟨Nat.le_of_ble_eq_true rfl, Nat.le_of_ble_eq_true rfl⟩ (by rw [hins]; exact hp) dX2_putInOrder_56
    · have hlt : (k.1 13 j).toInt < (k.1 13 o).toInt := by rw [i32_le] at c_36; omega
      refine lv_iinc (v := (nI (t9 - 1))) (lv' := [(2, .int (nI (t9 - 1))), (0, .ref (a (20 + 3 * i))), (1, .ref (a (32 + j)))]) hx hb dX2_putInOrder_39 hl (k := 0) rfl (nI_m hp1) (by decide) rfl (fun ls hl => ?_)
      refine lv_goto (tgt := 10) hx hb dX2_putInOrder_42 (by decide) ?_
      exact ih_10 (t9 - 1) _ _ _ (by omega) ⟨⟨by omega, by rw [← insP_go hp1 hpo hlt]; exact hinv⟩, hw, lv_sub hl [0, 1, 2] rfl⟩

theorem c_putInOrderE (l : Launch) (g : GE) (L : List Nat) (f : Nat → va_E) (a : Nat → Nat) (k : KS) (hk : CW g a k L f) (i : Nat) (hpi : i < kP k) (h4 : i < 4) (j : Nat) (hjc : j < kC k) (O : List Nat) (hsz : k.2.1 3 (2 + i) ≤ k.2.1 4 (2 + i) ∧ k.2.1 4 (2 + i) ≤ 100 ∧ k.2.1 3 (2 + i) ≤ 60) (hO : k.2.1 3 (2 + i) = O.length) (hat0 : ∀ q o, O[q]? = some o → k.2.2.1 (2 + i) q = some (a (32 + o)) ∧ o < kC k) (po ch : Nat) (hpo : po = a (20 + 3 * i)) (hch : ch = a (32 + j)) : Mv l yX2_putInOrder wsX2_putInOrder (rmH 6 1 200) g L f [.ref po, .ref ch] (fun u => AddP g L f (a (21 + 3 * i)) (k.1 17 (2 + i) + 1) (lea g a k (2 + i) (22 + 3 * i)) (k.2.1 3 (2 + i)) (insT (k.2.2.1 (2 + i)) (insP (k.1 13) (k.1 13 j) O O.length) (a (32 + j))) u) 1 200 := by
  subst hpo
  subst hch
  exact c_putInOrder l g L f a k hk i hpi h4 j hjc O hsz hO hat0
/-- the state behind a change: the lists' own numbers are whatever they are -/
def kTold (k : KS) (i kd : Nat) (fl fr am : Int32) (m1 m2 : Int32) (c1 c2 : Nat) (r1 r2 : Nat → Option Nat) : KS := kAdd (kAdd (kChg k i kd fl fr am (insO (k.1 13) fr (kC k) (k.2.2.2 i))) 1 m1 c1 r1) (2 + i) m2 c2 r2
theorem ins_at {O : List Nat} {p n : Nat} {r : Nat → Option Nat} {b : Nat → Nat} (hp : p ≤ O.length) (hO : ∀ (q : Nat) (h : q < O.length), r q = some (b O[q])) (q : Nat) (h : q < (O.take p ++ n :: O.drop p).length) : insT r p (b n) q = some (b ((O.take p ++ n :: O.drop p)[q])) := by
  have hl : (O.take p).length = p := List.length_take_of_le hp
  have hlen : q < O.length + 1 := by
    rw [List.length_append, List.length_cons, List.length_drop, hl] at h
    omega
  unfold insT
  by_cases h1 : q < p
  · rw [if_pos h1, hO q (by omega), List.getElem_append_left (by omega), List.getElem_take]
  · rw [if_neg h1]
    by_cases h2 : q = p
    · subst h2
      rw [if_pos rfl, List.getElem_append_right (by omega)]
      simp only [hl, Nat.sub_self, List.getElem_cons_zero]
    · rw [if_neg h2, hO (q - 1) (by omega), List.getElem_append_right (by omega)]
      obtain ⟨m, rfl⟩ : ∃ m, q = p + m + 1 := ⟨q - p - 1, by omega⟩
      have e1 : p + m + 1 - (O.take p).length = m + 1 := by omega
      simp only [e1, List.getElem_cons_succ, List.getElem_drop]
      rfl
theorem insO_len (v : Nat → Int32) (x : Int32) (n : Nat) (O : List Nat) : (insO v x n O).length = O.length + 1 := by
  have h := insP_le v x O O.length
  unfold insO
  rw [List.length_append, List.length_cons, List.length_drop, List.length_take_of_le h]
  omega
theorem insO_mem {v : Nat → Int32} {x : Int32} {n j : Nat} {O : List Nat} (h : j ∈ insO v x n O) : j = n ∨ j ∈ O := by
  unfold insO at h
  rcases List.mem_append.mp h with h | h
  · exact Or.inr (List.mem_of_mem_take h)
  · rcases List.mem_cons.mp h with h | h
    · exact Or.inl h
    · exact Or.inr (List.mem_of_mem_drop h)
theorem Iv.told {a : Nat → Nat} {k : KS} (hi : Iv a k) (hle : ∀ i, i < kP k → (k.2.2.2 i).length ≤ kC k) {i kd : Nat} (hpi : i < kP k) (hkd : kd < 4) (h60 : kC k < 60) {q ea1 ea2 : Nat} {m1 m2 fl fr am : Int32} {c1 c2 : Nat} {r1 r2 : Nat → Option Nat} (hc1 : k.2.1 3 1 + 1 ≤ c1 ∧ c1 ≤ 100) (hr1 : ∀ j, j < k.2.1 3 1 + 1 → r1 j = insT (k.2.2.1 1) (k.2.1 3 1) q j) (hc2 : k.2.1 3 (2 + i) + 1 ≤ c2 ∧ c2 ≤ 100) (hr2 : ∀ j, j < k.2.1 3 (2 + i) + 1 → r2 j = insT (k.2.2.1 (2 + i)) (insP (k.1 13) fr (k.2.2.2 i) (k.2.2.2 i).length) q j) :
    Iv (va_up (va_up (va_up a (32 + kC k) q) 18 ea1) (22 + 3 * i) ea2) (kTold k i kd fl fr am m1 m2 c1 c2 r1 r2) ∧ ∀ p, p < kP k → (va_up k.2.2.2 i (insO (k.1 13) fr (kC k) (k.2.2.2 i)) p).length ≤ kC k + 1 := by
  have h4 := hi.h4 hpi
  have N3 : ∀ t, t ≠ 1 → t ≠ 2 + i → (kTold k i kd fl fr am m1 m2 c1 c2 r1 r2).2.1 3 t = k.2.1 3 t := fun t h1 h2 => pu_n h2 (pu_n h1 rfl)
  have N4 : ∀ t, t ≠ 1 → t ≠ 2 + i → (kTold k i kd fl fr am m1 m2 c1 c2 r1 r2).2.1 4 t = k.2.1 4 t := fun t h1 h2 => pu_n h2 (pu_n h1 rfl)
  have N31 : (kTold k i kd fl fr am m1 m2 c1 c2 r1 r2).2.1 3 1 = k.2.1 3 1 + 1 := by
    show va_up (va_up (k.2.1 3) 1 (k.2.1 3 1 + 1)) (2 + i) (va_up (k.2.1 3) 1 (k.2.1 3 1 + 1) (2 + i) + 1) 1 = _
    exact pu_n (by omega) pu_s
  have N41 : (kTold k i kd fl fr am m1 m2 c1 c2 r1 r2).2.1 4 1 = c1 := by
    show va_up (va_up (k.2.1 4) 1 c1) (2 + i) c2 1 = c1
    exact pu_n (by omega) pu_s
  have N3i : (kTold k i kd fl fr am m1 m2 c1 c2 r1 r2).2.1 3 (2 + i) = k.2.1 3 (2 + i) + 1 := by
    show va_up (va_up (k.2.1 3) 1 (k.2.1 3 1 + 1)) (2 + i) (va_up (k.2.1 3) 1 (k.2.1 3 1 + 1) (2 + i) + 1) (2 + i) = _
    rw [pu_s, pu_n (show 2 + i ≠ 1 by omega) rfl]
  have N4i : (kTold k i kd fl fr am m1 m2 c1 c2 r1 r2).2.1 4 (2 + i) = c2 := pu_s
  have R : ∀ t, t ≠ 1 → t ≠ 2 + i → (kTold k i kd fl fr am m1 m2 c1 c2 r1 r2).2.2.1 t = k.2.2.1 t := fun t h1 h2 => pu_n h2 (pu_n h1 rfl)
  have R1 : (kTold k i kd fl fr am m1 m2 c1 c2 r1 r2).2.2.1 1 = r1 := by
    show va_up (va_up k.2.2.1 1 r1) (2 + i) r2 1 = r1
    exact pu_n (by omega) pu_s
  have Ri : (kTold k i kd fl fr am m1 m2 c1 c2 r1 r2).2.2.1 (2 + i) = r2 := pu_s
  have Oi : (kTold k i kd fl fr am m1 m2 c1 c2 r1 r2).2.2.2 i = insO (k.1 13) fr (kC k) (k.2.2.2 i) := pu_s
  have On : ∀ p, p ≠ i → (kTold k i kd fl fr am m1 m2 c1 c2 r1 r2).2.2.2 p = k.2.2.2 p := fun p h => pu_n h rfl
  have P1 : (kTold k i kd fl fr am m1 m2 c1 c2 r1 r2).2.1 1 = va_up (k.2.1 1) (kC k) i := rfl
  have P2 : (kTold k i kd fl fr am m1 m2 c1 c2 r1 r2).2.1 2 = va_up (k.2.1 2) (kC k) kd := rfl
  have hs1 := hi.2.1.2
  have hso := (hi.2.2.2.2.2.1 i hpi).1
  have hl9 := hle i hpi
  have A1 : ∀ p, p < 4 → va_up (va_up (va_up a (32 + kC k) q) 18 ea1) (22 + 3 * i) ea2 (20 + 3 * p) = a (20 + 3 * p) := fun p hp => pu_n (by omega) (pu_n (by omega) (pu_n (by omega) rfl))
  have A2 : ∀ j, j < kC k → va_up (va_up (va_up a (32 + kC k) q) 18 ea1) (22 + 3 * i) ea2 (32 + j) = a (32 + j) := fun j hj => pu_n (by omega) (pu_n (by omega) (pu_n (by omega) rfl))
  have A3 : va_up (va_up (va_up a (32 + kC k) q) 18 ea1) (22 + 3 * i) ea2 (32 + kC k) = q := pu_n (by omega) (pu_n (by omega) pu_s)
  refine ⟨⟨⟨hi.1.1, show kC k + 1 ≤ 60 by omega⟩, ⟨(N3 0 (by omega) (by omega)).trans hi.2.1.1, by rw [N31]; show k.2.1 3 1 + 1 = kC k + 1; omega⟩, fun t => ?_, fun p hp => ?_, fun j hj => ?_, fun p hp => ?_, fun p hp j hj => ?_, fun j hj => ?_⟩, fun p hp => ?_⟩
  · by_cases e1 : t = 1
    · subst e1
      rw [N31, N41]
      omega
    · by_cases e2 : t = 2 + i
      · subst e2
        rw [N3i, N4i]
        omega
      · rw [N3 t e1 e2, N4 t e1 e2]
        exact hi.2.2.1 t
  · rw [R 0 (by omega) (by omega), A1 p (by have := hi.h4 hp; omega)]
    exact hi.2.2.2.1 p hp
  · have hj : j < kC k + 1 := hj
    rw [R1, hr1 j (by omega)]
    unfold insT
    by_cases e : j = kC k
    · subst e
      rw [if_neg (by omega), if_pos hs1.symm, A3]
    · rw [if_pos (by omega), A2 j (by omega)]
      exact hi.2.2.2.2.1 j (by omega)
  · by_cases e : p = i
    · subst e
      rw [N3i, Oi]
      refine ⟨by rw [insO_len]; omega, fun x hx => ?_⟩
      have hx' : x < k.2.1 3 (2 + p) + 1 := by
        rw [insO_len] at hx
        omega
      rw [Ri, hr2 x hx']
      have h9 := ins_at (O := k.2.2.2 p) (p := insP (k.1 13) fr (k.2.2.2 p) (k.2.2.2 p).length) (n := kC k) (r := k.2.2.1 (2 + p)) (b := fun j => va_up (va_up (va_up a (32 + kC k) q) 18 ea1) (22 + 3 * p) ea2 (32 + j)) (insP_le _ _ _ _) (fun y hy => by
        rw [(hi.2.2.2.2.2.1 p hpi).2 y hy]
        exact congrArg some (A2 _ (hi.2.2.2.2.2.2.1 p hpi _ (List.getElem_mem hy)).1).symm) x hx
      rw [A3] at h9
      exact h9
    · rw [N3 (2 + p) (by omega) (by omega), On p e, R (2 + p) (by omega) (by omega)]
      refine ⟨(hi.2.2.2.2.2.1 p hp).1, fun x hx => ?_⟩
      rw [(hi.2.2.2.2.2.1 p hp).2 x hx]
      exact congrArg some (A2 _ (hi.2.2.2.2.2.2.1 p hp _ (List.getElem_mem hx)).1).symm
  · show j < kC k + 1 ∧ va_up (k.2.1 1) (kC k) i j = p
    have key : ∀ j, j ∈ k.2.2.2 p → j < kC k + 1 ∧ va_up (k.2.1 1) (kC k) i j = p := fun j hj => by
      have h9 := hi.2.2.2.2.2.2.1 p hp j hj
      exact ⟨by omega, pu_n (by omega) h9.2⟩
    by_cases e : p = i
    · subst e
      rw [Oi] at hj
      rcases insO_mem hj with rfl | h
      · exact ⟨by omega, pu_s⟩
      · exact key j h
    · rw [On p e] at hj
      exact key j hj
  · have hj : j < kC k + 1 := hj
    show va_up (k.2.1 1) (kC k) i j < kP k ∧ va_up (k.2.1 2) (kC k) kd j < 4
    by_cases e : j = kC k
    · subst e
      rw [pu_s, pu_s]
      exact ⟨hpi, hkd⟩
    · rw [pu_n e rfl, pu_n e rfl]
      exact hi.2.2.2.2.2.2.2 j (by omega)
  · by_cases e : p = i
    · subst e
      rw [pu_s, insO_len]
      omega
    · rw [pu_n e rfl]
      exact Nat.le_succ_of_le (hle p hp)

set_option maxHeartbeats 4000000 in
set_option maxRecDepth 100000 in
theorem c_tell (l : Launch) (hst : l.stackTraces = false) (g : GE) (L : List Nat) (f : Nat → va_E) (a : Nat → Nat) (k : KS) (hk : CW g a k L f) (hi : Iv a k) (hle : ∀ i, i < kP k → (k.2.2.2 i).length ≤ kC k) (i : Nat) (hpi : i < kP k) (kd : Nat) (hkd : kd < 4) (fl fr am : Int32) : Xi l yX6_tell wsX6_tell (rmH 8 4 500) g L f [.ref (a 0), .ref (a (20 + 3 * i)), .ref (g.2.2 kd), .int fl, .int fr, .int am] (fun r u => kC k < 60 ∧ r = nI (kC k) ∧ (∀ b, b ∈ L → b ∈ u.1) ∧ ∃ a9 m1 m2 c1 c2 r1 r2, a9 0 = a 0 ∧ CW g a9 (kTold k i kd fl fr am m1 m2 c1 c2 r1 r2) u.1 u.2 ∧ Iv a9 (kTold k i kd fl fr am m1 m2 c1 c2 r1 r2) ∧ ∀ p, p < kP k → (va_up k.2.2.2 i (insO (k.1 13) fr (kC k) (k.2.2.2 i)) p).length ≤ kC k + 1) (fun E u => E = "java/lang/IllegalStateException" ∧ ¬ kC k < 60 ∧ u = (L, f)) 4 500 := by
  intro sz
  refine vx_ofW (cc := cX6_tell) (maxL := 7) (ret := (some .int)) (by decide) rfl ?_
  intro p e s m args below meth c s₁ B hml htab hv
  obtain ⟨rfl, hv⟩ := hv
  have hx := B.exec
  have hb := B.bytes
  have hr := B.returns
  have hts := atoms_spec (ws := wsX6_tell) B.pre
  have hown : s.vm.findClass RX6 = some m.cls := findClass_of_methodNamed B.named
  have hlocks := B.notSynchronized
  obtain ⟨rfl, hw, hs⟩ := pm_begin hv
  generalize va_A (va_pl L f) s.heap.size = A at hw hs ⊢
  have CF := (⟨hx, hb, hml, hown, hts⟩ : CallFix p m c cX6_tell 7 s _ wsX6_tell RX6)
  have hin_X6 : ∀ w ∈ wsX60, w ∈ wsX6_tell := by decide +kernel
  have hin_X0 : ∀ w ∈ wsX00, w ∈ wsX6_tell := by decide +kernel
  have hin_X2 : ∀ w ∈ wsX20, w ∈ wsX6_tell := by decide +kernel
  have hl := lv_entry ([.ref (a 0), .ref (a (20 + 3 * i)), .ref (g.2.2 kd), .int fl, .int fr, .int am]) (n := 7) (Nat.le_of_ble_eq_true rfl)
  rw [lg_entry_eq]
  generalize (lg_sl ([.ref (a 0), .ref (a (20 + 3 * i)), .ref (g.2.2 kd), .int fl, .int fr, .int am]) ++ List.replicate (7 - (lg_sl ([.ref (a 0), .ref (a (20 + 3 * i)), .ref (g.2.2 kd), .int fl, .int fr, .int am])).length) Slot.unset).toArray = ls at hl ⊢
  have hl : lv_has ls 7 [(0, .ref (a 0)), (1, .ref (a (20 + 3 * i))), (2, .ref (g.2.2 kd)), (3, .int fl), (4, .int fr), (5, .int am)] := hl
  have h4 := hi.h4 hpi
  have hL1 := hk.ls1 hi
  have h60 := hi.1.2
  refine lv_aload_n hx hb dX6_tell_0 rfl (lv_at hl 0 rfl) ?_
  refine pm_get (ci := 8) (v := .ref (a 2)) (C := RX6) (T := TX6) (N := 6) hx hb hts hin_X6 hown hw (hk.q (i := 0) (dC (by decide))) (hk.f (i := 0) (dC (by decide))) rfl 1 (by decide) (hts (.fieldLink RX6 16 "Backdater" "told" "Ljava/util/List;") (by decide +kernel)) (fun _ h9 => h9) rfl dX6_tell_1 ?_
  refine pc_Fi hw (va_runF (As := []) (rest := []) (hw.1.1 2 _ rfl).2 CF (c_size l g _ _ (a 2) _ _ _ hL1.q hL1.f _) (va_cwF 0 hts gX6_tell_Jx4a65c_size_8abf5_f48Jx4a65c rfl rfl rfl hs.2.2.2.2.2.2.1.1 (by decide +kernel) ⟨Nat.le_of_ble_eq_true rfl, Nat.le_of_ble_eq_true rfl⟩) (pm_preV hw hs (pm_recv hw (hk.q (i := 2) (dC (by decide))) (hk.f (i := 2) (dC (by decide))) rfl)) rfl rfl hl.1 rfl (lv_room (Nat.le_of_ble_eq_true rfl)) dX6_tell_4 ⟨Nat.le_of_ble_eq_true rfl, Nat.le_of_ble_eq_true rfl⟩) (fun r L1 f1 H locs hp hw => ?_)
  obtain ⟨hE_4, hu⟩ := hp
  obtain rfl : _ = L1 := (congrArg Prod.fst hu).symm
  obtain rfl : _ = f1 := (congrArg Prod.snd hu).symm
  generalize r = r_4 at hE_4 ⊢
  rw [hi.2.1.2] at hE_4
  subst hE_4
  refine lv_bipush (v := 60) hx hb dX6_tell_9 (by decide) ?_
  refine lv_icmp_lt (tgt := 24) hx hb dX6_tell_11 (by decide) (fun c_11 => ?_) (fun c_11 => ?_)
  · have hlt : kC k < 60 := by
      rw [i32_lt, nI_toInt (by omega)] at c_11
      have : (60 : Int32).toInt = 60 := by decide
      omega
    refine pm_new (ci := 3) (fs := [.int 0, .null, .null, .int 0, .int 0, .int 0, .int 0, .int 0]) (C := RX0) (T := TX0) (N := 8) hx hb hts hin_X0 tyX0 tyX0_ok hown (hts (.classLink RX6 111 RX0) (by decide +kernel)) (hts (.instantiable RX0 8) (by decide +kernel)) (hts (.initialized RX0) (by decide +kernel)) hw rfl (fun j hj => by rcases (show j = 0 ∨ j = 1 ∨ j = 2 ∨ j = 3 ∨ j = 4 ∨ j = 5 ∨ j = 6 ∨ j = 7 by omega) with rfl | rfl | rfl | rfl | rfl | rfl | rfl | rfl <;> rfl) (Nat.le_of_ble_eq_true rfl) (Nat.le_of_ble_eq_true rfl) dX6_tell_24 (fun q H hnq hw => ?_)
    have hk0 := hk
    have hk : CW g a k _ _ := hk.more (e := (.inr (3, [.int 0, .null, .null, .int 0, .int 0, .int 0, .int 0, .int 0]))) hnq
    have hL1 := hk.ls1 hi
    refine lv_dup hx hb dX6_tell_27 rfl ?_
    refine lv_aload_n hx hb dX6_tell_28 rfl (lv_at hl 0 rfl) ?_
    refine pm_get (ci := 8) (v := .ref (a 2)) (C := RX6) (T := TX6) (N := 6) hx hb hts hin_X6 hown hw (hk.q (i := 0) (dC (by decide))) (hk.f (i := 0) (dC (by decide))) rfl 1 (by decide) (hts (.fieldLink RX6 16 "Backdater" "told" "Ljava/util/List;") (by decide +kernel)) (fun _ h9 => h9) rfl dX6_tell_29 ?_
    refine pc_Fi hw (va_runF (As := []) (rest := [.ref q, .ref q]) (hw.1.1 2 _ rfl).2 CF (c_size l g _ _ (a 2) _ _ _ hL1.q hL1.f _) (va_cwF 0 hts gX6_tell_Jx4a65c_size_8abf5_f48Jx4a65c rfl rfl rfl hs.2.2.2.2.2.2.1.1 (by decide +kernel) ⟨Nat.le_of_ble_eq_true rfl, Nat.le_of_ble_eq_true rfl⟩) (pm_preV hw hs (pm_recv hw (hk.q (i := 2) (dC (by decide))) (hk.f (i := 2) (dC (by decide))) rfl)) rfl rfl hl.1 rfl (lv_room (Nat.le_of_ble_eq_true rfl)) dX6_tell_32 ⟨Nat.le_of_ble_eq_true rfl, Nat.le_of_ble_eq_true rfl⟩) (fun r L1 f1 H locs hp hw => ?_)
    obtain ⟨hE_32, hu⟩ := hp
    obtain rfl : _ = L1 := (congrArg Prod.fst hu).symm
    obtain rfl : _ = f1 := (congrArg Prod.snd hu).symm
    generalize r = r_32 at hE_32 ⊢
    rw [hi.2.1.2] at hE_32
    subst hE_32
    refine lv_aload_n hx hb dX6_tell_37 rfl (lv_at hl 1 rfl) ?_
    refine lv_aload_n hx hb dX6_tell_38 rfl (lv_at hl 2 rfl) ?_
    refine lv_iload_n hx hb dX6_tell_39 rfl (lv_at hl 3 rfl) ?_
    refine lv_iload hx hb dX6_tell_40 (lv_at hl 4 rfl) ?_
    refine lv_iload hx hb dX6_tell_42 (lv_at hl 5 rfl) ?_
    refine lv_aload_n hx hb dX6_tell_44 rfl (lv_at hl 0 rfl) ?_
    refine pm_get (ci := 8) (v := .int (k.1 0 0)) (C := RX6) (T := TX6) (N := 6) hx hb hts hin_X6 hown hw (hk.q (i := 0) (dC (by decide))) (hk.f (i := 0) (dC (by decide))) rfl 5 (by decide) (hts (.fieldLink RX6 40 "Backdater" "currentDay" "I") (by decide +kernel)) (fun _ h9 => h9) rfl dX6_tell_45 ?_
    refine pc_v hw (va_runI (As := [.int (nI (kC k)), .ref (a (20 + 3 * i)), .ref (g.2.2 kd), .int fl, .int fr, .int am, .int (k.1 0 0)]) (rest := [.ref q]) CF (c_Change_init l g _ _ q (a (20 + 3 * i)) (g.2.2 kd) (nI (kC k)) fl fr am (k.1 0 0) (List.mem_append_right _ (List.mem_singleton.mpr rfl)) pu_s _) (cwI 7 hts gX6_tell_X0_init rfl rfl rfl (hts (.initialized RX0) (by decide +kernel)) (hts (.methodLink RX6 199 yX0_init) (by decide +kernel)) (hts (.instanceMethod yX0_init) (by decide +kernel)) rfl (by decide +kernel) ⟨Nat.le_of_ble_eq_true rfl, Nat.le_of_ble_eq_true rfl⟩) (pm_preS hw hs) rfl rfl hl.1 rfl (lv_room (Nat.le_of_ble_eq_true rfl)) dX6_tell_48 ⟨Nat.le_of_ble_eq_true rfl, Nat.le_of_ble_eq_true rfl⟩) (fun L1 f1 H locs hp hw => ?_)
    obtain rfl : _ = L1 := (congrArg Prod.fst hp).symm
    obtain rfl : _ = f1 := (congrArg Prod.snd hp).symm
    have hw : PW g A s H locs (L ++ [q]) (va_up f q (.inr (3, [.int (nI (kC k)), .ref (a (20 + 3 * i)), .ref (g.2.2 kd), .int fl, .int fr, .int am, .int (k.1 0 0), .int (-1)]))) := by
      have h9 := hw
      rw [va_up_up] at h9
      exact h9
    have hk : CW g a k _ _ := hk0.more (e := (.inr (3, [.int (nI (kC k)), .ref (a (20 + 3 * i)), .ref (g.2.2 kd), .int fl, .int fr, .int am, .int (k.1 0 0), .int (-1)]))) hnq
    have hL1 := hk.ls1 hi
    have hk1 := hk0.chg hi h4 hnq kd fl fr am (insO (k.1 13) fr (kC k) (k.2.2.2 i))
    have hemp := pm_emp hw hs
    refine lv_astore (lv' := [(6, .ref q), (0, .ref (a 0)), (1, .ref (a (20 + 3 * i))), (2, .ref (g.2.2 kd)), (3, .int fl), (4, .int fr), (5, .int am)]) hx hb dX6_tell_51 hl (by decide) rfl (fun ls hl => ?_)
    refine lv_aload_n hx hb dX6_tell_53 rfl (lv_at hl 1 rfl) ?_
    refine pm_get (ci := 8) (v := .ref (a 2)) (C := RX6) (T := TX6) (N := 6) hx hb hts hin_X6 hown hw (hk.q (i := 0) (dC (by decide))) (hk.f (i := 0) (dC (by decide))) rfl 1 (by decide) (hts (.fieldLink RX6 16 "Backdater" "told" "Ljava/util/List;") (by decide +kernel)) (fun _ h9 => h9) rfl dX6_tell_54 ?_
    refine lv_aload hx hb dX6_tell_57 (lv_at hl 0 rfl) ?_
    refine pc_Fi hw (va_runF (As := [.ref q]) (rest := []) (hw.1.1 2 _ rfl).2 CF (c_addE l g _ _ (a 2) _ _ _ _ _ hL1 q ⟨List.mem_append_right _ (List.mem_singleton.mpr rfl), 3, _, pu_s, Or.inl rfl⟩ _) (va_cwF 1 hts gX6_tell_Jx4a65c_add_9ea2d_f66Jx4a65c rfl rfl rfl hs.2.2.2.2.2.2.1.2.2.1 (by decide +kernel) ⟨Nat.le_of_ble_eq_true rfl, Nat.le_of_ble_eq_true rfl⟩) (pm_preV hw hs (pm_recv hw (hk.q (i := 2) (dC (by decide))) (hk.f (i := 2) (dC (by decide))) rfl)) rfl rfl hl.1 rfl (lv_room (Nat.le_of_ble_eq_true rfl)) dX6_tell_59 ⟨Nat.le_of_ble_eq_true rfl, Nat.le_of_ble_eq_true rfl⟩) (fun r L1 f1 H locs hp hw => ?_)
    obtain ⟨rfl, hadd⟩ := hp
    have hadd1 : AddP g (L ++ [q]) (va_up f q (.inr (3, [.int (nI (kC k)), .ref (a (20 + 3 * i)), .ref (g.2.2 kd), .int fl, .int fr, .int am, .int (k.1 0 0), .int (-1)]))) (va_up a (32 + kC k) q (li 1)) (k.1 17 1 + 1) (lea g (va_up a (32 + kC k) q) (kChg k i kd fl fr am (insO (k.1 13) fr (kC k) (k.2.2.2 i))) 1 (ai 1)) (k.2.1 3 1) (insT (k.2.2.1 1) (k.2.1 3 1) q) (L1, f1) := by
      have e1 : va_up a (32 + kC k) q 2 = a 2 := pu_n (by omega) rfl
      have e2 : va_up a (32 + kC k) q 18 = a 18 := pu_n (by omega) rfl
      show AddP g _ _ (va_up a (32 + kC k) q 2) _ (if k.2.1 4 1 = 0 then g.2.2 4 else va_up a (32 + kC k) q 18) _ _ _
      rw [e1, e2]
      exact hadd
    obtain ⟨ea1, c1, r1, hk2, hc1, hr1, hL2⟩ := hk1.add (t := 1) (Or.inr (Or.inl rfl)) hi.1.1 (fun j hj => by
      show va_up (k.2.1 1) (kC k) i j < 4
      have hj : j < kC k + 1 := hj
      by_cases e : j = kC k
      · subst e
        rw [pu_s]
        exact h4
      · rw [pu_n e rfl]
        exact hi.p4 (by omega)) hemp hadd1
    have hk2 : CW g (va_up (va_up a (32 + kC k) q) 18 ea1) (kAdd (kChg k i kd fl fr am (insO (k.1 13) fr (kC k) (k.2.2.2 i))) 1 (k.1 17 1 + 1) c1 r1) L1 f1 := hk2
    have hemp2 := pm_emp hw hs
    have hs1 := hi.2.1.2
    have hso := (hi.2.2.2.2.2.1 i hpi).1
    have hl9 := hle i hpi
    have hlim := hi.1.2
    have hz2 := hi.2.2.1 (2 + i)
    have A1 : va_up (va_up a (32 + kC k) q) 18 ea1 (20 + 3 * i) = a (20 + 3 * i) := pu_n (by omega) (pu_n (by omega) rfl)
    have A3 : va_up (va_up a (32 + kC k) q) 18 ea1 (32 + kC k) = q := pu_n (by omega) pu_s
    have S3 : (kAdd (kChg k i kd fl fr am (insO (k.1 13) fr (kC k) (k.2.2.2 i))) 1 (k.1 17 1 + 1) c1 r1).2.1 3 (2 + i) = k.2.1 3 (2 + i) := pu_n (show 2 + i ≠ 1 by omega) rfl
    have S4 : (kAdd (kChg k i kd fl fr am (insO (k.1 13) fr (kC k) (k.2.2.2 i))) 1 (k.1 17 1 + 1) c1 r1).2.1 4 (2 + i) = k.2.1 4 (2 + i) := pu_n (show 2 + i ≠ 1 by omega) rfl
    have SR : (kAdd (kChg k i kd fl fr am (insO (k.1 13) fr (kC k) (k.2.2.2 i))) 1 (k.1 17 1 + 1) c1 r1).2.2.1 (2 + i) = k.2.2.1 (2 + i) := pu_n (show 2 + i ≠ 1 by omega) rfl
    have SV : (kAdd (kChg k i kd fl fr am (insO (k.1 13) fr (kC k) (k.2.2.2 i))) 1 (k.1 17 1 + 1) c1 r1).1 13 = upd (k.1 13) (kC k) fr := rfl
    have HAT : ∀ x o, (k.2.2.2 i)[x]? = some o → (kAdd (kChg k i kd fl fr am (insO (k.1 13) fr (kC k) (k.2.2.2 i))) 1 (k.1 17 1 + 1) c1 r1).2.2.1 (2 + i) x = some (va_up (va_up a (32 + kC k) q) 18 ea1 (32 + o)) ∧ o < kC k + 1 := by
      intro x o hx
      obtain ⟨hx1, rfl⟩ := List.getElem?_eq_some_iff.mp hx
      have h9 := hi.2.2.2.2.2.2.1 i hpi _ (List.getElem_mem hx1)
      rw [SR, (hi.2.2.2.2.2.1 i hpi).2 x hx1]
      exact ⟨congrArg some (pu_n (by omega) (pu_n (by omega) rfl)).symm, by omega⟩
    refine lv_pop hx hb dX6_tell_64 rfl ?_
    refine lv_aload_n hx hb dX6_tell_65 rfl (lv_at hl 2 rfl) ?_
    refine lv_aload hx hb dX6_tell_66 (lv_at hl 0 rfl) ?_
    refine pc_v hw (va_runV (As := [.ref q]) (rest := []) CF (c_putInOrderE l g L1 f1 _ (kAdd (kChg k i kd fl fr am (insO (k.1 13) fr (kC k) (k.2.2.2 i))) 1 (k.1 17 1 + 1) c1 r1) hk2 i hpi h4 (kC k) (Nat.lt_succ_self _) (k.2.2.2 i) (by rw [S3, S4]; exact hz2) (S3.trans hso) HAT (a (20 + 3 * i)) q A1.symm A3.symm _) (cwV 1 hts gX6_tell_X2_putInOrder rfl rfl rfl (by decide +kernel) ⟨Nat.le_of_ble_eq_true rfl, Nat.le_of_ble_eq_true rfl⟩) (pm_preV hw hs (pm_recv hw (A1 ▸ hk2.q (i := 20 + 3 * i) (dP hpi h4)) (A1 ▸ (hk2.f (i := 20 + 3 * i) (dP hpi h4)).trans (fP g _ _ h4)) rfl)) rfl rfl hl.1 rfl (lv_room (Nat.le_of_ble_eq_true rfl)) dX6_tell_68 ⟨Nat.le_of_ble_eq_true rfl, Nat.le_of_ble_eq_true rfl⟩) (fun L1 f1 H locs hp hw => ?_)
    have hadd2 := hp
    obtain ⟨ea2, c2, r2, hk3, hc2, hr2, hL3⟩ := hk2.add (t := 2 + i) (Or.inr (Or.inr ⟨i, rfl, h4, hpi⟩)) hi.1.1 (fun j hj => by
      show va_up (k.2.1 1) (kC k) i j < 4
      have hj : j < kC k + 1 := hj
      by_cases e : j = kC k
      · subst e
        rw [pu_s]
        exact h4
      · rw [pu_n e rfl]
        exact hi.p4 (by omega)) hemp2 (by rw [li_p, ai_p]; exact hadd2)
    rw [S3] at hc2 hr2
    rw [SR, SV, A3, upd_s, insP_c (v' := k.1 13) _ (fun x hx => upd_n (by
      rw [List.getD_eq_getElem?_getD, List.getElem?_eq_getElem hx]
      have := (hi.2.2.2.2.2.2.1 i hpi _ (List.getElem_mem hx)).1
      show (k.2.2.2 i)[x] ≠ kC k
      omega))] at hr2
    have hc60 : kC k < 60 := hlt
    have hIv := hi.told hle hpi hkd hc60 (ea1 := ea1) (ea2 := ea2) (fl := fl) (am := am) (m1 := k.1 17 1 + 1) (m2 := (kAdd (kChg k i kd fl fr am (insO (k.1 13) fr (kC k) (k.2.2.2 i))) 1 (k.1 17 1 + 1) c1 r1).1 17 (2 + i) + 1) hc1 hr1 hc2 hr2
    have A4 : va_up (va_up (va_up a (32 + kC k) q) 18 ea1) (ai (2 + i)) ea2 (32 + kC k) = q := pu_n (by rw [ai_p]; omega) A3
    have hqq : q ∈ L1 := by
      have h9 := hk3.q (i := 32 + kC k) (dCh (Nat.lt_succ_self _))
      rw [A4] at h9
      exact h9
    have hfq := (hk3.f (i := 32 + kC k) (dCh (Nat.lt_succ_self _))).trans (fCh g _ _ (kC k))
    rw [A4] at hfq
    refine lv_aload hx hb dX6_tell_71 (lv_at hl 0 rfl) ?_
    refine pm_get (ci := 3) (v := .int (nI (kC k))) (C := RX0) (T := TX0) (N := 8) hx hb hts hin_X0 hown hw hqq hfq rfl 0 (by decide) (hts (.fieldLink RX6 131 "Backdater$Change" "number" "I") (by decide +kernel)) (fun _ h9 => h9) rfl dX6_tell_73 ?_
    exact vx_ret (pr_i (v := (nI (kC k))) hx hb hr hlocks hw rfl ⟨Nat.le_of_ble_eq_true rfl, Nat.le_of_ble_eq_true rfl⟩ (⟨hlt, rfl, fun b hb => hL3 b (hL2 b (List.mem_append_left _ hb)), _, _, _, _, _, _, _, (by rw [ai_p]; exact pu_n (by omega) (pu_n (by omega) (pu_n (by omega) rfl))), hk3, (by rw [ai_p]; exact hIv.1), hIv.2⟩) dX6_tell_76)
  · have hlt : ¬ kC k < 60 := by
      rw [i32_lt, nI_toInt (by omega)] at c_11
      have : (60 : Int32).toInt = 60 := by decide
      omega
    exact px_throwS (own := RX6) (cls := "java/lang/IllegalStateException") (names := ["java/lang/RuntimeException", "java/lang/Exception"]) hx hb hst hown (by decide +kernel) (by decide +kernel) (hts (.classLink RX6 54 "java/lang/IllegalStateException") (by decide +kernel)) (hts (.initialized "java/lang/IllegalStateException") (by decide +kernel)) (by decide +kernel : (RX6, 197, "there are 60 changes") ∈ sx_texts) hts (by decide +kernel) (by decide +kernel) (by decide +kernel) (by decide +kernel) hs hw hml hl.1 dX6_tell_14 dX6_tell_17 dX6_tell_18 dX6_tell_20 dX6_tell_23 htab hlocks ⟨Nat.le_of_ble_eq_true rfl, Nat.le_of_ble_eq_true rfl, Nat.le_of_ble_eq_true rfl, Nat.le_of_ble_eq_true rfl⟩ ⟨Nat.le_of_ble_eq_true rfl, Nat.le_of_ble_eq_true rfl⟩ (⟨rfl, hlt, rfl⟩)

end TELL
