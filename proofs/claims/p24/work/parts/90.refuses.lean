/-! what there is not is refused -/
section REFUSES
section CUT
variable {p : Program} {l : Launch} {e : Env} {R : Room} {s : State} {m : MethodId} {args : Array Value} {below : List Frame} {meth : Method} {c : Code} {H : Heap} {locs : List Loc} {cells slots : Nat} {Q : State → Prop} {ls : Array Slot}
/-- roads that meet again, with a number on the stack -/
theorem W_cut {P : Int32 → Prop} {pc pc' : Nat} {st rest : List Value} (K : (∀ v, P v → W p l e R s m args below meth c H locs cells slots Q (F0 m pc' ls (.int v :: rest))) → W p l e R s m args below meth c H locs cells slots Q (F0 m pc ls st)) (J : ∀ v, P v → W p l e R s m args below meth c H locs cells slots Q (F0 m pc' ls (.int v :: rest))) : W p l e R s m args below meth c H locs cells slots Q (F0 m pc ls st) := K J
end CUT
theorem no_in {v X : Int32} (h : (v = -1 ∧ X = 0) ∨ v = 2147483647 ∨ v = -2147483648) : v.toInt = -1 ∨ v.toInt = 2147483647 ∨ v.toInt = -2147483648 := by
  rcases h with ⟨rfl, -⟩ | rfl | rfl
  · exact Or.inl (by decide)
  · exact Or.inr (Or.inl (by decide))
  · exact Or.inr (Or.inr (by decide))
section NO
variable {v X : Int32} {p0 c0 t0 p : Nat} {m : MS}
theorem nb_p (hp : p ≤ 60) (h : (v = -1 ∧ X = 0) ∨ v = 2147483647 ∨ v = -2147483648) : ¬ pB p v := fun h9 => by
  obtain ⟨h1, h2⟩ := h9
  rcases no_in h with e | e | e <;> omega
theorem nb_f (h : (v = -1 ∧ X = 0) ∨ v = 2147483647 ∨ v = -2147483648) : ¬ fldP v := fun h9 => by
  obtain ⟨h1, h2⟩ := h9
  rcases no_in h with e | e | e <;> omega
theorem nb_d (h : (v = -1 ∧ X = 0) ∨ v = 2147483647 ∨ v = -2147483648) : ¬ dayP v := fun h9 => by
  obtain ⟨h1, h2⟩ := h9
  rcases no_in h with e | e | e <;> omega
theorem nb_w (h : (v = -1 ∧ X = 0) ∨ v = 2147483647 ∨ v = -2147483648) : ¬ wgtP v := fun h9 => by
  obtain ⟨h1, h2⟩ := h9
  rcases no_in h with e | e | e <;> omega
theorem nb_b (h : (v = -1 ∧ X = 0) ∨ v = 2147483647 ∨ v = -2147483648) : ¬ (1 ≤ v.toInt ∧ v.toInt ≤ 1000) := fun h9 => by
  obtain ⟨h1, h2⟩ := h9
  rcases no_in h with e | e | e <;> omega
theorem nb_100 (h : (v = -1 ∧ X = 0) ∨ v = 2147483647 ∨ v = -2147483648) : ¬ (1 ≤ v.toInt ∧ v.toInt ≤ 100) := fun h9 => by
  obtain ⟨h1, h2⟩ := h9
  rcases no_in h with e | e | e <;> omega
theorem nb_20 (h : (v = -1 ∧ X = 0) ∨ v = 2147483647 ∨ v = -2147483648) : ¬ (0 ≤ v.toInt ∧ v.toInt ≤ 20) := fun h9 => by
  obtain ⟨h1, h2⟩ := h9
  rcases no_in h with e | e | e <;> omega
theorem nb_m20 (h : (v = -1 ∧ X = 0) ∨ v = 2147483647 ∨ v = -2147483648) (hX : ¬ X = 0) : ¬ (-20 ≤ v.toInt ∧ v.toInt ≤ 20) := fun h9 => by
  obtain ⟨h1, h2⟩ := h9
  rcases h with ⟨-, h⟩ | h
  · exact hX h
  · rcases no_in (v := v) (X := X) (Or.inr h) with e | e | e
    · rcases h with rfl | rfl
      · exact absurd e (by decide)
      · exact absurd e (by decide)
    · omega
    · omega
theorem nb_k (hm : (m 0 1).toInt ≤ 100000) (h : (v = -1 ∧ X = 0) ∨ v = 2147483647 ∨ v = -2147483648) : ¬ kB m v := fun h9 => by
  obtain ⟨h1, h2⟩ := h9
  rcases no_in h with e | e | e <;> omega
theorem nb_s (hp : 0 < p0) (h : (v = -1 ∧ X = 0) ∨ v = 2147483647 ∨ v = -2147483648) : ¬ sB m p0 c0 t0 0 v (m 0 1) := fun h9 => by
  obtain ⟨d, h1, h2, h3⟩ := h9 0 hp rfl
  have h4 := cnt_le (rtF m 0 (m 0 1) c0 t0) d
  have h5 : v.toInt = ((cntS (rtF m 0 (m 0 1) c0 t0) d : Nat) : Int) := by rw [← h3, nI_toInt (by omega)]
  rcases no_in h with e | e | e <;> omega
theorem lim_p (hp : p ≤ 60) : ¬ pB p (nI p) := fun h9 => by
  obtain ⟨h1, h2⟩ := h9
  rw [nI_toInt (by omega)] at h2
  omega
theorem td1 {x : Int32} (h0 : 0 ≤ x.toInt) (hm : x.toInt ≤ 100000) : (x + 1).toInt = x.toInt + 1 := by
  rcases pk_ix x (n := 200000) (by omega) with q | q | ⟨i, hi, rfl⟩
  · rw [i32_lt, i32_0] at q
    omega
  · rw [i32_le, nI_toInt (by omega)] at q
    omega
  · rw [nI_1, nI_toInt (by omega), nI_toInt (by omega)]
    omega
theorem lim_k (h0 : 0 ≤ (m 0 1).toInt) (hm : (m 0 1).toInt ≤ 100000) : ¬ kB m (m 0 1 + 1) := fun h9 => by
  obtain ⟨h1, h2⟩ := h9
  rw [td1 h0 hm] at h2
  omega
theorem lim_s (hp : 0 < p0) : ¬ sB m p0 c0 t0 0 (nI (csM m (ix 0) (m 0 1) c0 t0)) (m 0 1) := fun h9 => by
  obtain ⟨d, h1, h2, h3⟩ := h9 0 hp rfl
  have e0 : csM m (ix 0) (m 0 1) c0 t0 = cntS (rtF m 0 (m 0 1) c0 t0) 365 := rfl
  rw [e0] at h3
  have h4 := cnt_le (rtF m 0 (m 0 1) c0 t0) d
  have h5 := cnt_le (rtF m 0 (m 0 1) c0 t0) 365
  have h6 := (nI_eq (by omega) (by omega)).mp h3
  have h7 := cntS_t h2
  have h8 := cntS_mono (rtF m 0 (m 0 1) c0 t0) (d := d + 1) (365 - (d + 1))
  rw [show d + 1 + (365 - (d + 1)) = 365 by omega] at h8
  omega
theorem pb_0 (hp : 0 < p) : pB p 0 := ⟨by decide, by show (0 : Int32).toInt < _; rw [i32_0]; omega⟩
end NO
set_option maxHeartbeats 8000000 in
set_option maxRecDepth 100000 in
theorem l_refuses (l : Launch) (hst : l.stackTraces = false) (g : GE) (L : List Nat) (f : Nat → va_E) {o : Nat} {m : MS} {p0 c0 t0 n : Nat} (hW : Wd g o m p0 c0 t0 n L f) (hp0 : 0 < p0) (hn : n ≤ 512) : Ni l yL_refuses wsL_refuses (rmH 11 1400 91000) g L f [.ref o, .int (nI p0)] (fun r u => r = 1 ∧ Wd g o m p0 c0 t0 n u.1 u.2) 1400 91000 := by
  intro sz
  refine vx_ofW (cc := cL_refuses) (maxL := 19) (ret := some .boolean) (by decide) rfl ?_
  intro p e s mI args below meth c s₁ B hml htab hv
  obtain ⟨rfl, hv⟩ := hv
  have hx := B.exec
  have hb := B.bytes
  have hr := B.returns
  have hts := atoms_spec (ws := wsL_refuses) B.pre
  have hown : s.vm.findClass RL = some mI.cls := findClass_of_methodNamed B.named
  have hlocks := B.notSynchronized
  obtain ⟨⟨rfl, hw, hs⟩, hN⟩ := pn_begin hv
  generalize va_A (va_pl L f) s.heap.size = A at hw hs ⊢
  have CF := (⟨hx, hb, hml, hown, hts⟩ : CallFix p mI c cL_refuses 19 s _ wsL_refuses RL)
  have hl := lv_entry ([.ref o, .int (nI p0)]) (n := 19) (Nat.le_of_ble_eq_true rfl)
  rw [lg_entry_eq]
  generalize (lg_sl ([.ref o, .int (nI p0)]) ++ List.replicate (19 - (lg_sl ([.ref o, .int (nI p0)])).length) Slot.unset).toArray = ls at hl ⊢
  have hl : lv_has ls 19 [(0, .ref o), (1, .int (nI p0))] := hl
  obtain ⟨-, ⟨hp4, ht20, hc60⟩, ht0, htn⟩ := hW.inv
  have pb0 : pB p0 0 := pb_0 hp0
  have f0 : fldP 0 := by decide
  have d5 : dayP 5 := by decide
  have d0 : dayP 0 := by decide
  have w5 : wgtP 5 := by decide
  have k0 : kB m 0 := ⟨by decide, by rw [i32_0]; exact ht0⟩
  have kt : kB m (m 0 1) := ⟨ht0, Int.le_refl _⟩
  refine lv_aload_n hx hb dL_refuses_0 rfl (lv_at hl 0 rfl) ?_
  obtain ⟨fs9, hq9, hf9⟩ := hW.rcv
  refine pc_i hw (va_runV (As := []) (rest := []) CF (q_changes l g _ _ hW _) (cwV 0 hts gL_refuses_X6_changes rfl rfl rfl (by decide +kernel) ⟨Nat.le_of_ble_eq_true rfl, Nat.le_of_ble_eq_true rfl⟩) (pm_preV hw hs (pm_recv hw hq9 hf9 rfl)) rfl rfl hl.1 rfl (lv_room (Nat.le_of_ble_eq_true rfl)) dL_refuses_1 ⟨by show _ ≤ 1400; omega, by show _ ≤ 91000; omega⟩) (fun r9 La fa Ha loca hp hw9 => ?_)
  clear hw hW fs9 hq9 hf9
  have hw := hw9
  clear hw9
  obtain rfl : r9 = (nI c0) := hp.1
  have hW : Wd g o m p0 c0 t0 n La fa := hp.2
  clear hp
  refine lv_istore_n (lv' := [(2, .int (nI c0)), (0, .ref o), (1, .int (nI p0))]) hx hb dL_refuses_4 rfl hl (by decide) rfl (fun ls hl => ?_)
  refine lv_aload_n hx hb dL_refuses_5 rfl (lv_at hl 1 rfl) ?_
  obtain ⟨fs9, hq9, hf9⟩ := hW.rcv
  refine pc_i hw (va_runV (As := []) (rest := []) CF (q_today l g _ _ hW _) (cwV 0 hts gL_refuses_X6_today rfl rfl rfl (by decide +kernel) ⟨Nat.le_of_ble_eq_true rfl, Nat.le_of_ble_eq_true rfl⟩) (pm_preV hw hs (pm_recv hw hq9 hf9 rfl)) rfl rfl hl.1 rfl (lv_room (Nat.le_of_ble_eq_true rfl)) dL_refuses_6 ⟨by show _ ≤ 1400; omega, by show _ ≤ 91000; omega⟩) (fun r9 Lb fb Hb locb hp hw9 => ?_)
  clear hw hW fs9 hq9 hf9
  try clear loca Ha fa La
  have hw := hw9
  clear hw9
  obtain rfl : r9 = (m 0 1) := hp.1
  have hW : Wd g o m p0 c0 t0 n Lb fb := hp.2
  clear hp
  refine lv_istore_n (lv' := [(3, .int (m 0 1)), (2, .int (nI c0)), (0, .ref o), (1, .int (nI p0))]) hx hb dL_refuses_9 rfl hl (by decide) rfl (fun ls hl => ?_)
  refine lv_aload_n hx hb dL_refuses_10 rfl (lv_at hl 2 rfl) ?_
  refine lv_iconst (v := 0) hx hb dL_refuses_11 (by decide) ?_
  refine lv_iload_n hx hb dL_refuses_12 rfl (lv_at hl 0 rfl) ?_
  obtain ⟨fs9, hq9, hf9⟩ := hW.rcv
  refine px_ic hw (vx_runV (As := [.int 0, .int (m 0 1)]) (rest := []) CF ((q_premium l hst g _ _ hW 0 (m 0 1)).sure ⟨pb0, kt, trivial⟩ _) (cwV 2 hts gL_refuses_X6_premium rfl rfl rfl (by decide +kernel) ⟨Nat.le_of_ble_eq_true rfl, Nat.le_of_ble_eq_true rfl⟩) (pm_preV hw hs (pm_recv hw hq9 hf9 rfl)) rfl rfl hl.1 rfl (lv_room (Nat.le_of_ble_eq_true rfl)) dL_refuses_13 ⟨by show _ ≤ 1400; omega, by show _ ≤ 91000; omega⟩) (fun E9 ce9 q9 L9 f9 H9 locs9 he9 _ _ _ _ => False.elim he9) (fun r9 La fa Ha loca hp hw9 => ?_)
  clear hw hW fs9 hq9 hf9
  try clear locb Hb fb Lb
  have hw := hw9
  clear hw9
  obtain rfl : r9 = (pmM m (ix 0) (m 0 1) c0 t0) := hp.1
  have hW : Wd g o m p0 c0 t0 n La fa := hp.2
  clear hp
  refine lv_istore (lv' := [(4, .int (pmM m (ix 0) (m 0 1) c0 t0)), (3, .int (m 0 1)), (2, .int (nI c0)), (0, .ref o), (1, .int (nI p0))]) hx hb dL_refuses_16 hl (by decide) rfl (fun ls hl => ?_)
  refine lv_aload_n hx hb dL_refuses_18 rfl (lv_at hl 3 rfl) ?_
  refine lv_iconst (v := 0) hx hb dL_refuses_19 (by decide) ?_
  refine lv_iload_n hx hb dL_refuses_20 rfl (lv_at hl 1 rfl) ?_
  obtain ⟨fs9, hq9, hf9⟩ := hW.rcv
  refine px_ic hw (vx_runV (As := [.int 0, .int (m 0 1)]) (rest := []) CF ((q_segments l hst g _ _ hW 0 (m 0 1)).sure ⟨pb0, kt, trivial⟩ _) (cwV 2 hts gL_refuses_X6_segments rfl rfl rfl (by decide +kernel) ⟨Nat.le_of_ble_eq_true rfl, Nat.le_of_ble_eq_true rfl⟩) (pm_preV hw hs (pm_recv hw hq9 hf9 rfl)) rfl rfl hl.1 rfl (lv_room (Nat.le_of_ble_eq_true rfl)) dL_refuses_21 ⟨by show _ ≤ 1400; omega, by show _ ≤ 91000; omega⟩) (fun E9 ce9 q9 L9 f9 H9 locs9 he9 _ _ _ _ => False.elim he9) (fun r9 Lb fb Hb locb hp hw9 => ?_)
  clear hw hW fs9 hq9 hf9
  try clear loca Ha fa La
  have hw := hw9
  clear hw9
  obtain rfl : r9 = (nI (csM m (ix 0) (m 0 1) c0 t0)) := hp.1
  have hW : Wd g o m p0 c0 t0 n Lb fb := hp.2
  clear hp
  refine lv_istore (lv' := [(5, .int (nI (csM m (ix 0) (m 0 1) c0 t0))), (4, .int (pmM m (ix 0) (m 0 1) c0 t0)), (3, .int (m 0 1)), (2, .int (nI c0)), (0, .ref o), (1, .int (nI p0))]) hx hb dL_refuses_24 hl (by decide) rfl (fun ls hl => ?_)
  refine lv_ldc (v := (-90000001)) hx hb hown (hts (.constant RL 73 (-90000001)) (by decide +kernel)) dL_refuses_26 ?_
  refine lv_istore (lv' := [(6, .int (-90000001)), (5, .int (nI (csM m (ix 0) (m 0 1) c0 t0))), (4, .int (pmM m (ix 0) (m 0 1) c0 t0)), (3, .int (m 0 1)), (2, .int (nI c0)), (0, .ref o), (1, .int (nI p0))]) hx hb dL_refuses_28 hl (by decide) rfl (fun ls hl => ?_)
  refine lv_ldc (v := (-90000002)) hx hb hown (hts (.constant RL 76 (-90000002)) (by decide +kernel)) dL_refuses_30 ?_
  refine lv_istore (lv' := [(7, .int (-90000002)), (6, .int (-90000001)), (5, .int (nI (csM m (ix 0) (m 0 1) c0 t0))), (4, .int (pmM m (ix 0) (m 0 1) c0 t0)), (3, .int (m 0 1)), (2, .int (nI c0)), (0, .ref o), (1, .int (nI p0))]) hx hb dL_refuses_32 hl (by decide) rfl (fun ls hl => ?_)
  refine lv_ldc (v := 2147483647) hx hb hown (hts (.constant RL 87 2147483647) (by decide +kernel)) dL_refuses_34 ?_
  refine lv_istore (lv' := [(8, .int 2147483647), (7, .int (-90000002)), (6, .int (-90000001)), (5, .int (nI (csM m (ix 0) (m 0 1) c0 t0))), (4, .int (pmM m (ix 0) (m 0 1) c0 t0)), (3, .int (m 0 1)), (2, .int (nI c0)), (0, .ref o), (1, .int (nI p0))]) hx hb dL_refuses_36 hl (by decide) rfl (fun ls hl => ?_)
  refine lv_iconst (v := 0) hx hb dL_refuses_38 (by decide) ?_
  refine lv_istore (lv' := [(9, .int 0), (8, .int 2147483647), (7, .int (-90000002)), (6, .int (-90000001)), (5, .int (nI (csM m (ix 0) (m 0 1) c0 t0))), (4, .int (pmM m (ix 0) (m 0 1) c0 t0)), (3, .int (m 0 1)), (2, .int (nI c0)), (0, .ref o), (1, .int (nI p0))]) hx hb dL_refuses_39 hl (by decide) rfl (fun ls hl => ?_)
  refine W_loopC (σ := Nat) (fun κ H locs ls ce sl => (κ ≤ 4 ∧ ce = 4 + 344 * κ ∧ sl = 24 + 22532 * κ) ∧ ∃ L1 f1, Wd g o m p0 c0 t0 n L1 f1 ∧ PW g A s H locs L1 f1 ∧ lv_has ls 19 [(0, .ref o), (1, .int (nI p0)), (2, .int (nI c0)), (3, .int (m 0 1)), (4, .int (pmM m (ix 0) (m 0 1) c0 t0)), (5, .int (nI (csM m (ix 0) (m 0 1) c0 t0))), (6, .int (-90000001)), (7, .int (-90000002)), (8, .int 2147483647), (9, .int (nI κ))]) (fun κ => 4 - κ) 0 ⟨⟨by omega, by omega, by omega⟩, _, _, hW, hw, lv_sub hl [8, 9, 7, 6, 5, 4, 3, 2, 1, 0] rfl⟩ ?_
  clear hW hw hl
  rintro κ H locs ls ce sl ⟨⟨hκ, rfl, rfl⟩, L1, f1, hW, hw, hl⟩ ih
  refine lv_iload hx hb dL_refuses_41 (lv_at hl 9 rfl) ?_
  refine lv_iconst (v := 4) hx hb dL_refuses_43 (by decide) ?_
  refine lv_icmp_ge (tgt := 880) hx hb dL_refuses_44 (by decide) (fun c_44 => ?_) (fun c_44 => ?_)
  · clear ih
    refine lv_aload_n hx hb dL_refuses_880 rfl (lv_at hl 0 rfl) ?_
    obtain ⟨fs9, hq9, hf9⟩ := hW.rcv
    refine pc_i hw (va_runV (As := []) (rest := []) CF (q_changes l g _ _ hW _) (cwV 0 hts gL_refuses_X6_changes rfl rfl rfl (by decide +kernel) ⟨Nat.le_of_ble_eq_true rfl, Nat.le_of_ble_eq_true rfl⟩) (pm_preV hw hs (pm_recv hw hq9 hf9 rfl)) rfl rfl hl.1 rfl (lv_room (Nat.le_of_ble_eq_true rfl)) dL_refuses_881 ⟨by show _ ≤ 1400; omega, by show _ ≤ 91000; omega⟩) (fun r9 La fa Ha loca hp hw9 => ?_)
    clear hw hW fs9 hq9 hf9
    have hw := hw9
    clear hw9
    obtain rfl : r9 = (nI c0) := hp.1
    have hW : Wd g o m p0 c0 t0 n La fa := hp.2
    clear hp
    refine lv_iload_n hx hb dL_refuses_884 rfl (lv_at hl 2 rfl) ?_
    refine lv_icmp_ne (tgt := 922) hx hb dL_refuses_885 (by decide) (fun h9 => absurd h9 (fun q9 => q9 rfl)) (fun _ => ?_)
    refine lv_aload_n hx hb dL_refuses_888 rfl (lv_at hl 0 rfl) ?_
    obtain ⟨fs9, hq9, hf9⟩ := hW.rcv
    refine pc_i hw (va_runV (As := []) (rest := []) CF (q_today l g _ _ hW _) (cwV 0 hts gL_refuses_X6_today rfl rfl rfl (by decide +kernel) ⟨Nat.le_of_ble_eq_true rfl, Nat.le_of_ble_eq_true rfl⟩) (pm_preV hw hs (pm_recv hw hq9 hf9 rfl)) rfl rfl hl.1 rfl (lv_room (Nat.le_of_ble_eq_true rfl)) dL_refuses_889 ⟨by show _ ≤ 1400; omega, by show _ ≤ 91000; omega⟩) (fun r9 Lb fb Hb locb hp hw9 => ?_)
    clear hw hW fs9 hq9 hf9
    try clear loca Ha fa La
    have hw := hw9
    clear hw9
    obtain rfl : r9 = (m 0 1) := hp.1
    have hW : Wd g o m p0 c0 t0 n Lb fb := hp.2
    clear hp
    refine lv_iload_n hx hb dL_refuses_892 rfl (lv_at hl 3 rfl) ?_
    refine lv_icmp_ne (tgt := 922) hx hb dL_refuses_893 (by decide) (fun h9 => absurd h9 (fun q9 => q9 rfl)) (fun _ => ?_)
    refine lv_aload_n hx hb dL_refuses_896 rfl (lv_at hl 0 rfl) ?_
    refine lv_iconst (v := 0) hx hb dL_refuses_897 (by decide) ?_
    refine lv_iload_n hx hb dL_refuses_898 rfl (lv_at hl 3 rfl) ?_
    obtain ⟨fs9, hq9, hf9⟩ := hW.rcv
    refine px_ic hw (vx_runV (As := [.int 0, .int (m 0 1)]) (rest := []) CF ((q_premium l hst g _ _ hW 0 (m 0 1)).sure ⟨pb0, kt, trivial⟩ _) (cwV 2 hts gL_refuses_X6_premium rfl rfl rfl (by decide +kernel) ⟨Nat.le_of_ble_eq_true rfl, Nat.le_of_ble_eq_true rfl⟩) (pm_preV hw hs (pm_recv hw hq9 hf9 rfl)) rfl rfl hl.1 rfl (lv_room (Nat.le_of_ble_eq_true rfl)) dL_refuses_899 ⟨by show _ ≤ 1400; omega, by show _ ≤ 91000; omega⟩) (fun E9 ce9 q9 L9 f9 H9 locs9 he9 _ _ _ _ => False.elim he9) (fun r9 La fa Ha loca hp hw9 => ?_)
    clear hw hW fs9 hq9 hf9
    try clear locb Hb fb Lb
    have hw := hw9
    clear hw9
    obtain rfl : r9 = (pmM m (ix 0) (m 0 1) c0 t0) := hp.1
    have hW : Wd g o m p0 c0 t0 n La fa := hp.2
    clear hp
    refine lv_iload hx hb dL_refuses_902 (lv_at hl 4 rfl) ?_
    refine lv_icmp_ne (tgt := 922) hx hb dL_refuses_904 (by decide) (fun h9 => absurd h9 (fun q9 => q9 rfl)) (fun _ => ?_)
    refine lv_aload_n hx hb dL_refuses_907 rfl (lv_at hl 0 rfl) ?_
    refine lv_iconst (v := 0) hx hb dL_refuses_908 (by decide) ?_
    refine lv_iload_n hx hb dL_refuses_909 rfl (lv_at hl 3 rfl) ?_
    obtain ⟨fs9, hq9, hf9⟩ := hW.rcv
    refine px_ic hw (vx_runV (As := [.int 0, .int (m 0 1)]) (rest := []) CF ((q_segments l hst g _ _ hW 0 (m 0 1)).sure ⟨pb0, kt, trivial⟩ _) (cwV 2 hts gL_refuses_X6_segments rfl rfl rfl (by decide +kernel) ⟨Nat.le_of_ble_eq_true rfl, Nat.le_of_ble_eq_true rfl⟩) (pm_preV hw hs (pm_recv hw hq9 hf9 rfl)) rfl rfl hl.1 rfl (lv_room (Nat.le_of_ble_eq_true rfl)) dL_refuses_910 ⟨by show _ ≤ 1400; omega, by show _ ≤ 91000; omega⟩) (fun E9 ce9 q9 L9 f9 H9 locs9 he9 _ _ _ _ => False.elim he9) (fun r9 Lb fb Hb locb hp hw9 => ?_)
    clear hw hW fs9 hq9 hf9
    try clear loca Ha fa La
    have hw := hw9
    clear hw9
    obtain rfl : r9 = (nI (csM m (ix 0) (m 0 1) c0 t0)) := hp.1
    have hW : Wd g o m p0 c0 t0 n Lb fb := hp.2
    clear hp
    refine lv_iload hx hb dL_refuses_913 (lv_at hl 5 rfl) ?_
    refine lv_icmp_ne (tgt := 922) hx hb dL_refuses_915 (by decide) (fun h9 => absurd h9 (fun q9 => q9 rfl)) (fun _ => ?_)
    refine lv_iconst (v := 1) hx hb dL_refuses_918 (by decide) ?_
    refine lv_goto (tgt := 923) hx hb dL_refuses_919 (by decide) ?_
    exact vx_ret (pr_i (v := 1) hx hb hr hlocks hw rfl ⟨by omega, by omega⟩ ⟨rfl, hW⟩ dL_refuses_923)
  · have hκ3 : κ < 4 := by
      rw [i32_le, nI_toInt (by omega), show (4 : Int32).toInt = 4 from rfl] at c_44
      omega
    refine W_cut (P := fun v => (v = -1 ∧ nI κ = 0) ∨ v = 2147483647 ∨ v = -2147483648) (pc' := 72) (rest := []) (fun J => ?_) (fun no hno => ?_)
    · refine lv_iload hx hb dL_refuses_47 (lv_at hl 9 rfl) ?_
      refine lv_if_ne (tgt := 56) hx hb dL_refuses_49 (by decide) (fun c_49 => ?_) (fun c_49 => ?_)
      · refine lv_iload hx hb dL_refuses_56 (lv_at hl 9 rfl) ?_
        refine lv_iconst (v := 2) hx hb dL_refuses_58 (by decide) ?_
        refine lv_icmp_ne (tgt := 67) hx hb dL_refuses_59 (by decide) (fun c_59 => ?_) (fun c_59 => ?_)
        · refine lv_iload hx hb dL_refuses_67 (lv_at hl 8 rfl) ?_
          refine lv_ineg hx hb dL_refuses_69 ?_
          refine lv_iconst (v := 1) hx hb dL_refuses_70 (by decide) ?_
          refine lv_isub hx hb dL_refuses_71 ?_
          exact J _ (Or.inr (Or.inr (by decide)))
        · refine lv_iload hx hb dL_refuses_62 (lv_at hl 8 rfl) ?_
          refine lv_goto (tgt := 72) hx hb dL_refuses_64 (by decide) ?_
          exact J _ (Or.inr (Or.inl rfl))
      · refine lv_iconst (v := (-1)) hx hb dL_refuses_52 (by decide) ?_
        refine lv_goto (tgt := 72) hx hb dL_refuses_53 (by decide) ?_
        exact J _ (Or.inl ⟨rfl, c_49⟩)
    refine lv_istore (lv' := [(10, .int no), (0, .ref o), (1, .int (nI p0)), (2, .int (nI c0)), (3, .int (m 0 1)), (4, .int (pmM m (ix 0) (m 0 1) c0 t0)), (5, .int (nI (csM m (ix 0) (m 0 1) c0 t0))), (6, .int (-90000001)), (7, .int (-90000002)), (8, .int 2147483647), (9, .int (nI κ))]) hx hb dL_refuses_72 hl (by decide) rfl (fun ls hl => ?_)
    refine W_cut (P := fun v => ¬ pB p0 v) (pc' := 86) (rest := []) (fun J => ?_) (fun po hpo => ?_)
    · refine lv_iload hx hb dL_refuses_74 (lv_at hl 10 rfl) ?_
      refine lv_iconst (v := 1) hx hb dL_refuses_76 (by decide) ?_
      refine lv_icmp_ne (tgt := 84) hx hb dL_refuses_77 (by decide) (fun c_77 => ?_) (fun c_77 => ?_)
      · refine lv_iload hx hb dL_refuses_84 (lv_at hl 0 rfl) ?_
        exact J _ (nb_p (by omega) hno)
      · refine lv_iload_n hx hb dL_refuses_80 rfl (lv_at hl 2 rfl) ?_
        refine lv_goto (tgt := 86) hx hb dL_refuses_81 (by decide) ?_
        exact J _ (lim_p (by omega))
    refine lv_istore (lv' := [(11, .int po), (10, .int no), (0, .ref o), (1, .int (nI p0)), (2, .int (nI c0)), (3, .int (m 0 1)), (4, .int (pmM m (ix 0) (m 0 1) c0 t0)), (5, .int (nI (csM m (ix 0) (m 0 1) c0 t0))), (6, .int (-90000001)), (7, .int (-90000002)), (8, .int 2147483647), (9, .int (nI κ))]) hx hb dL_refuses_86 hl (by decide) rfl (fun ls hl => ?_)
    refine W_cut (P := fun v => ¬ fldP v) (pc' := 100) (rest := []) (fun J => ?_) (fun fi hfi => ?_)
    · refine lv_iload hx hb dL_refuses_88 (lv_at hl 11 rfl) ?_
      refine lv_iconst (v := 1) hx hb dL_refuses_90 (by decide) ?_
      refine lv_icmp_ne (tgt := 98) hx hb dL_refuses_91 (by decide) (fun c_91 => ?_) (fun c_91 => ?_)
      · refine lv_iload hx hb dL_refuses_98 (lv_at hl 1 rfl) ?_
        exact J _ (nb_f hno)
      · refine lv_iconst (v := 3) hx hb dL_refuses_94 (by decide) ?_
        refine lv_goto (tgt := 100) hx hb dL_refuses_95 (by decide) ?_
        exact J _ (by decide)
    refine lv_istore (lv' := [(12, .int fi), (11, .int po), (10, .int no), (0, .ref o), (1, .int (nI p0)), (2, .int (nI c0)), (3, .int (m 0 1)), (4, .int (pmM m (ix 0) (m 0 1) c0 t0)), (5, .int (nI (csM m (ix 0) (m 0 1) c0 t0))), (6, .int (-90000001)), (7, .int (-90000002)), (8, .int 2147483647), (9, .int (nI κ))]) hx hb dL_refuses_100 hl (by decide) rfl (fun ls hl => ?_)
    refine W_cut (P := fun v => ¬ dayP v) (pc' := 116) (rest := []) (fun J => ?_) (fun da hda => ?_)
    · refine lv_iload hx hb dL_refuses_102 (lv_at hl 12 rfl) ?_
      refine lv_iconst (v := 1) hx hb dL_refuses_104 (by decide) ?_
      refine lv_icmp_ne (tgt := 114) hx hb dL_refuses_105 (by decide) (fun c_105 => ?_) (fun c_105 => ?_)
      · refine lv_iload hx hb dL_refuses_114 (lv_at hl 2 rfl) ?_
        exact J _ (nb_d hno)
      · refine lv_sipush (v := 365) hx hb dL_refuses_108 (by decide) ?_
        refine lv_goto (tgt := 116) hx hb dL_refuses_111 (by decide) ?_
        exact J _ (by decide)
    refine lv_istore (lv' := [(13, .int da), (12, .int fi), (11, .int po), (10, .int no), (0, .ref o), (1, .int (nI p0)), (2, .int (nI c0)), (3, .int (m 0 1)), (4, .int (pmM m (ix 0) (m 0 1) c0 t0)), (5, .int (nI (csM m (ix 0) (m 0 1) c0 t0))), (6, .int (-90000001)), (7, .int (-90000002)), (8, .int 2147483647), (9, .int (nI κ))]) hx hb dL_refuses_116 hl (by decide) rfl (fun ls hl => ?_)
    refine W_cut (P := fun v => ¬ kB m v) (pc' := 132) (rest := []) (fun J => ?_) (fun kn hkn => ?_)
    · refine lv_iload hx hb dL_refuses_118 (lv_at hl 13 rfl) ?_
      refine lv_iconst (v := 1) hx hb dL_refuses_120 (by decide) ?_
      refine lv_icmp_ne (tgt := 130) hx hb dL_refuses_121 (by decide) (fun c_121 => ?_) (fun c_121 => ?_)
      · refine lv_iload hx hb dL_refuses_130 (lv_at hl 3 rfl) ?_
        exact J _ (nb_k (by omega) hno)
      · refine lv_iload_n hx hb dL_refuses_124 rfl (lv_at hl 7 rfl) ?_
        refine lv_iconst (v := 1) hx hb dL_refuses_125 (by decide) ?_
        refine lv_iadd hx hb dL_refuses_126 ?_
        refine lv_goto (tgt := 132) hx hb dL_refuses_127 (by decide) ?_
        exact J _ (lim_k ht0 (by omega))
    refine lv_istore (lv' := [(14, .int kn), (13, .int da), (12, .int fi), (11, .int po), (10, .int no), (0, .ref o), (1, .int (nI p0)), (2, .int (nI c0)), (3, .int (m 0 1)), (4, .int (pmM m (ix 0) (m 0 1) c0 t0)), (5, .int (nI (csM m (ix 0) (m 0 1) c0 t0))), (6, .int (-90000001)), (7, .int (-90000002)), (8, .int 2147483647), (9, .int (nI κ))]) hx hb dL_refuses_132 hl (by decide) rfl (fun ls hl => ?_)
    refine W_cut (P := fun v => ¬ pB c0 v) (pc' := 146) (rest := []) (fun J => ?_) (fun ch hch => ?_)
    · refine lv_iload hx hb dL_refuses_134 (lv_at hl 14 rfl) ?_
      refine lv_iconst (v := 1) hx hb dL_refuses_136 (by decide) ?_
      refine lv_icmp_ne (tgt := 144) hx hb dL_refuses_137 (by decide) (fun c_137 => ?_) (fun c_137 => ?_)
      · refine lv_iload hx hb dL_refuses_144 (lv_at hl 4 rfl) ?_
        exact J _ (nb_p (by omega) hno)
      · refine lv_iload_n hx hb dL_refuses_140 rfl (lv_at hl 7 rfl) ?_
        refine lv_goto (tgt := 146) hx hb dL_refuses_141 (by decide) ?_
        exact J _ (lim_p (by omega))
    refine lv_istore (lv' := [(15, .int ch), (14, .int kn), (13, .int da), (12, .int fi), (11, .int po), (10, .int no), (0, .ref o), (1, .int (nI p0)), (2, .int (nI c0)), (3, .int (m 0 1)), (4, .int (pmM m (ix 0) (m 0 1) c0 t0)), (5, .int (nI (csM m (ix 0) (m 0 1) c0 t0))), (6, .int (-90000001)), (7, .int (-90000002)), (8, .int 2147483647), (9, .int (nI κ))]) hx hb dL_refuses_146 hl (by decide) rfl (fun ls hl => ?_)
    refine W_cut (P := fun v => ¬ (0 ≤ v.toInt ∧ v.toInt ≤ 20) ∧ (¬ nI κ = 0 → ¬ (-20 ≤ v.toInt ∧ v.toInt ≤ 20))) (pc' := 161) (rest := []) (fun J => ?_) (fun tw htw => ?_)
    · refine lv_iload hx hb dL_refuses_148 (lv_at hl 15 rfl) ?_
      refine lv_iconst (v := 1) hx hb dL_refuses_150 (by decide) ?_
      refine lv_icmp_ne (tgt := 159) hx hb dL_refuses_151 (by decide) (fun c_151 => ?_) (fun c_151 => ?_)
      · refine lv_iload hx hb dL_refuses_159 (lv_at hl 5 rfl) ?_
        exact J _ (⟨nb_20 hno, fun h9 => nb_m20 hno h9⟩)
      · refine lv_bipush (v := 21) hx hb dL_refuses_154 (by decide) ?_
        refine lv_goto (tgt := 161) hx hb dL_refuses_156 (by decide) ?_
        exact J _ (⟨by decide, fun _ => by decide⟩)
    refine lv_istore (lv' := [(16, .int tw), (15, .int ch), (14, .int kn), (13, .int da), (12, .int fi), (11, .int po), (10, .int no), (0, .ref o), (1, .int (nI p0)), (2, .int (nI c0)), (3, .int (m 0 1)), (4, .int (pmM m (ix 0) (m 0 1) c0 t0)), (5, .int (nI (csM m (ix 0) (m 0 1) c0 t0))), (6, .int (-90000001)), (7, .int (-90000002)), (8, .int 2147483647), (9, .int (nI κ))]) hx hb dL_refuses_161 hl (by decide) rfl (fun ls hl => ?_)
    refine lv_aload_n hx hb dL_refuses_163 rfl (lv_at hl 7 rfl) ?_
    refine lv_iconst (v := 0) hx hb dL_refuses_164 (by decide) ?_
    refine W_cut (P := fun v => ¬ (1 ≤ v.toInt ∧ v.toInt ≤ 1000)) (pc' := 188) (rest := [.int 0, .ref o]) (fun J => ?_) (fun v0 hv0 => ?_)
    · refine lv_iload hx hb dL_refuses_165 (lv_at hl 16 rfl) ?_
      refine lv_if_ne (tgt := 174) hx hb dL_refuses_167 (by decide) (fun c_167 => ?_) (fun c_167 => ?_)
      · refine lv_iload hx hb dL_refuses_174 (lv_at hl 16 rfl) ?_
        refine lv_iconst (v := 1) hx hb dL_refuses_176 (by decide) ?_
        refine lv_icmp_ne (tgt := 186) hx hb dL_refuses_177 (by decide) (fun c_177 => ?_) (fun c_177 => ?_)
        · refine lv_iload hx hb dL_refuses_186 (lv_at hl 6 rfl) ?_
          exact J _ (nb_b hno)
        · refine lv_sipush (v := 1001) hx hb dL_refuses_180 (by decide) ?_
          refine lv_goto (tgt := 188) hx hb dL_refuses_183 (by decide) ?_
          exact J _ (by decide)
      · refine lv_iconst (v := 0) hx hb dL_refuses_170 (by decide) ?_
        refine lv_goto (tgt := 188) hx hb dL_refuses_171 (by decide) ?_
        exact J _ (by decide)
    refine lv_iconst (v := 0) hx hb dL_refuses_188 (by decide) ?_
    refine lv_iconst (v := 0) hx hb dL_refuses_189 (by decide) ?_
    refine lv_iconst (v := 0) hx hb dL_refuses_190 (by decide) ?_
    refine px_ic hw (vx_runSX (As := [.ref o, .int 0, .int v0, .int 0, .int 0, .int 0]) (rest := []) CF (ra_open l hst g _ _ hW v0 0 0 0 _) (vx_cwSW 6 hts gL_refuses_L_act rfl rfl rfl (by decide +kernel) ⟨Nat.le_of_ble_eq_true rfl, Nat.le_of_ble_eq_true rfl⟩) (pn_preS hw hs hN) rfl rfl hl.1 rfl (lv_room (Nat.le_of_ble_eq_true rfl)) dL_refuses_191 ⟨by show _ ≤ 1400; omega, by show _ ≤ 91000; omega⟩) (fun E9 ce9 q9 L9 f9 H9 locs9 he9 _ _ _ _ => False.elim he9) (fun r9 La fa Ha loca hp hw9 => ?_)
    clear hw hW
    try clear locb Hb fb Lb
    have hw := hw9
    clear hw9
    obtain ⟨e9, hW⟩ := hp.f1 cE_a hv0
    subst e9
    replace hW : Wd g o m p0 c0 t0 n La fa := hW
    clear hp
    refine lv_iload hx hb dL_refuses_194 (lv_at hl 14 rfl) ?_
    refine lv_icmp_ne (tgt := 366) hx hb dL_refuses_196 (by decide) (fun h9 => absurd h9 (by decide)) (fun _ => ?_)
    refine lv_aload_n hx hb dL_refuses_199 rfl (lv_at hl 7 rfl) ?_
    refine lv_iconst (v := 1) hx hb dL_refuses_200 (by decide) ?_
    refine lv_iload hx hb dL_refuses_201 (lv_at hl 4 rfl) ?_
    refine lv_iconst (v := (-1)) hx hb dL_refuses_203 (by decide) ?_
    refine lv_iconst (v := 0) hx hb dL_refuses_204 (by decide) ?_
    refine lv_iconst (v := 0) hx hb dL_refuses_205 (by decide) ?_
    refine px_ic hw (vx_runSX (As := [.ref o, .int 1, .int fi, .int (-1), .int 0, .int 0]) (rest := []) CF (ra_setWeight l hst g _ _ hW fi (-1) 0 0 _) (vx_cwSW 6 hts gL_refuses_L_act rfl rfl rfl (by decide +kernel) ⟨Nat.le_of_ble_eq_true rfl, Nat.le_of_ble_eq_true rfl⟩) (pn_preS hw hs hN) rfl rfl hl.1 rfl (lv_room (Nat.le_of_ble_eq_true rfl)) dL_refuses_206 ⟨by show _ ≤ 1400; omega, by show _ ≤ 91000; omega⟩) (fun E9 ce9 q9 L9 f9 H9 locs9 he9 _ _ _ _ => False.elim he9) (fun r9 Lb fb Hb locb hp hw9 => ?_)
    clear hw hW
    try clear loca Ha fa La
    have hw := hw9
    clear hw9
    obtain ⟨e9, hW⟩ := hp.f1 cE_i hfi
    subst e9
    replace hW : Wd g o m p0 c0 t0 n Lb fb := hW
    clear hp
    refine lv_iload hx hb dL_refuses_209 (lv_at hl 13 rfl) ?_
    refine lv_icmp_ne (tgt := 366) hx hb dL_refuses_211 (by decide) (fun h9 => absurd h9 (by decide)) (fun _ => ?_)
    refine lv_aload_n hx hb dL_refuses_214 rfl (lv_at hl 7 rfl) ?_
    refine lv_iconst (v := 1) hx hb dL_refuses_215 (by decide) ?_
    refine lv_iconst (v := 0) hx hb dL_refuses_216 (by decide) ?_
    refine W_cut (P := fun v => ¬ wgtP v) (pc' := 230) (rest := [.int 0, .int 1, .ref o]) (fun J => ?_) (fun v1 hv1 => ?_)
    · refine lv_iload hx hb dL_refuses_217 (lv_at hl 16 rfl) ?_
      refine lv_iconst (v := 1) hx hb dL_refuses_219 (by decide) ?_
      refine lv_icmp_ne (tgt := 228) hx hb dL_refuses_220 (by decide) (fun c_220 => ?_) (fun c_220 => ?_)
      · refine lv_iload hx hb dL_refuses_228 (lv_at hl 6 rfl) ?_
        exact J _ (nb_w hno)
      · refine lv_bipush (v := 101) hx hb dL_refuses_223 (by decide) ?_
        refine lv_goto (tgt := 230) hx hb dL_refuses_225 (by decide) ?_
        exact J _ (by decide)
    refine lv_iconst (v := 0) hx hb dL_refuses_230 (by decide) ?_
    refine lv_iconst (v := 0) hx hb dL_refuses_231 (by decide) ?_
    refine px_ic hw (vx_runSX (As := [.ref o, .int 1, .int 0, .int v1, .int 0, .int 0]) (rest := []) CF (ra_setWeight l hst g _ _ hW 0 v1 0 0 _) (vx_cwSW 6 hts gL_refuses_L_act rfl rfl rfl (by decide +kernel) ⟨Nat.le_of_ble_eq_true rfl, Nat.le_of_ble_eq_true rfl⟩) (pn_preS hw hs hN) rfl rfl hl.1 rfl (lv_room (Nat.le_of_ble_eq_true rfl)) dL_refuses_232 ⟨by show _ ≤ 1400; omega, by show _ ≤ 91000; omega⟩) (fun E9 ce9 q9 L9 f9 H9 locs9 he9 _ _ _ _ => False.elim he9) (fun r9 La fa Ha loca hp hw9 => ?_)
    clear hw hW
    try clear locb Hb fb Lb
    have hw := hw9
    clear hw9
    obtain ⟨e9, hW⟩ := hp.f2 cE_a f0 hv1
    subst e9
    replace hW : Wd g o m p0 c0 t0 n La fa := hW
    clear hp
    refine lv_iload hx hb dL_refuses_235 (lv_at hl 14 rfl) ?_
    refine lv_icmp_ne (tgt := 366) hx hb dL_refuses_237 (by decide) (fun h9 => absurd h9 (by decide)) (fun _ => ?_)
    refine lv_aload_n hx hb dL_refuses_240 rfl (lv_at hl 7 rfl) ?_
    refine lv_iconst (v := 1) hx hb dL_refuses_241 (by decide) ?_
    refine lv_iconst (v := 0) hx hb dL_refuses_242 (by decide) ?_
    refine lv_iconst (v := 5) hx hb dL_refuses_243 (by decide) ?_
    refine lv_iload hx hb dL_refuses_244 (lv_at hl 3 rfl) ?_
    refine lv_iconst (v := 0) hx hb dL_refuses_246 (by decide) ?_
    refine px_ic hw (vx_runSX (As := [.ref o, .int 1, .int 0, .int 5, .int da, .int 0]) (rest := []) CF (ra_setWeight l hst g _ _ hW 0 5 da 0 _) (vx_cwSW 6 hts gL_refuses_L_act rfl rfl rfl (by decide +kernel) ⟨Nat.le_of_ble_eq_true rfl, Nat.le_of_ble_eq_true rfl⟩) (pn_preS hw hs hN) rfl rfl hl.1 rfl (lv_room (Nat.le_of_ble_eq_true rfl)) dL_refuses_247 ⟨by show _ ≤ 1400; omega, by show _ ≤ 91000; omega⟩) (fun E9 ce9 q9 L9 f9 H9 locs9 he9 _ _ _ _ => False.elim he9) (fun r9 Lb fb Hb locb hp hw9 => ?_)
    clear hw hW
    try clear loca Ha fa La
    have hw := hw9
    clear hw9
    obtain ⟨e9, hW⟩ := hp.f3 cE_a f0 w5 hda
    subst e9
    replace hW : Wd g o m p0 c0 t0 n Lb fb := hW
    clear hp
    refine lv_iload hx hb dL_refuses_250 (lv_at hl 14 rfl) ?_
    refine lv_icmp_ne (tgt := 366) hx hb dL_refuses_252 (by decide) (fun h9 => absurd h9 (by decide)) (fun _ => ?_)
    refine lv_aload_n hx hb dL_refuses_255 rfl (lv_at hl 7 rfl) ?_
    refine lv_iconst (v := 2) hx hb dL_refuses_256 (by decide) ?_
    refine W_cut (P := fun v => ¬ (1 ≤ v.toInt ∧ v.toInt ≤ 100)) (pc' := 279) (rest := [.int 2, .ref o]) (fun J => ?_) (fun v2 hv2 => ?_)
    · refine lv_iload hx hb dL_refuses_257 (lv_at hl 16 rfl) ?_
      refine lv_if_ne (tgt := 266) hx hb dL_refuses_259 (by decide) (fun c_259 => ?_) (fun c_259 => ?_)
      · refine lv_iload hx hb dL_refuses_266 (lv_at hl 16 rfl) ?_
        refine lv_iconst (v := 1) hx hb dL_refuses_268 (by decide) ?_
        refine lv_icmp_ne (tgt := 277) hx hb dL_refuses_269 (by decide) (fun c_269 => ?_) (fun c_269 => ?_)
        · refine lv_iload hx hb dL_refuses_277 (lv_at hl 6 rfl) ?_
          exact J _ (nb_100 hno)
        · refine lv_bipush (v := 101) hx hb dL_refuses_272 (by decide) ?_
          refine lv_goto (tgt := 279) hx hb dL_refuses_274 (by decide) ?_
          exact J _ (by decide)
      · refine lv_iconst (v := 0) hx hb dL_refuses_262 (by decide) ?_
        refine lv_goto (tgt := 279) hx hb dL_refuses_263 (by decide) ?_
        exact J _ (by decide)
    refine lv_iconst (v := 0) hx hb dL_refuses_279 (by decide) ?_
    refine lv_iconst (v := 0) hx hb dL_refuses_280 (by decide) ?_
    refine lv_iconst (v := 0) hx hb dL_refuses_281 (by decide) ?_
    refine px_ic hw (vx_runSX (As := [.ref o, .int 2, .int v2, .int 0, .int 0, .int 0]) (rest := []) CF (ra_pass l hst g _ _ hW hn v2 0 0 0 _) (vx_cwSW 6 hts gL_refuses_L_act rfl rfl rfl (by decide +kernel) ⟨Nat.le_of_ble_eq_true rfl, Nat.le_of_ble_eq_true rfl⟩) (pn_preS hw hs hN) rfl rfl hl.1 rfl (lv_room (Nat.le_of_ble_eq_true rfl)) dL_refuses_282 ⟨by show _ ≤ 1400; omega, by show _ ≤ 91000; omega⟩) (fun E9 ce9 q9 L9 f9 H9 locs9 he9 _ _ _ _ => False.elim he9) (fun r9 La fa Ha loca hp hw9 => ?_)
    clear hw hW
    try clear locb Hb fb Lb
    have hw := hw9
    clear hw9
    obtain ⟨e9, hW⟩ := hp.f1 cE_a hv2
    subst e9
    replace hW : Wd g o m p0 c0 t0 n La fa := hW
    clear hp
    refine lv_iload hx hb dL_refuses_285 (lv_at hl 14 rfl) ?_
    refine lv_icmp_ne (tgt := 366) hx hb dL_refuses_287 (by decide) (fun h9 => absurd h9 (by decide)) (fun _ => ?_)
    refine lv_aload_n hx hb dL_refuses_290 rfl (lv_at hl 7 rfl) ?_
    refine lv_iconst (v := 3) hx hb dL_refuses_291 (by decide) ?_
    refine lv_iconst (v := 0) hx hb dL_refuses_292 (by decide) ?_
    refine lv_iconst (v := 0) hx hb dL_refuses_293 (by decide) ?_
    refine lv_iconst (v := 5) hx hb dL_refuses_294 (by decide) ?_
    refine lv_iload hx hb dL_refuses_295 (lv_at hl 0 rfl) ?_
    refine px_ic hw (vx_runSX (As := [.ref o, .int 3, .int 0, .int 0, .int 5, .int tw]) (rest := []) CF (ra_change l hst g _ _ hW 0 0 5 tw _) (vx_cwSW 6 hts gL_refuses_L_act rfl rfl rfl (by decide +kernel) ⟨Nat.le_of_ble_eq_true rfl, Nat.le_of_ble_eq_true rfl⟩) (pn_preS hw hs hN) rfl rfl hl.1 rfl (lv_room (Nat.le_of_ble_eq_true rfl)) dL_refuses_297 ⟨by show _ ≤ 1400; omega, by show _ ≤ 91000; omega⟩) (fun E9 ce9 q9 L9 f9 H9 locs9 he9 _ _ _ _ => False.elim he9) (fun r9 Lb fb Hb locb hp hw9 => ?_)
    clear hw hW
    try clear loca Ha fa La
    have hw := hw9
    clear hw9
    obtain ⟨e9, hW⟩ := hp.f4 cE_a pb0 f0 d5 htw.1
    subst e9
    replace hW : Wd g o m p0 c0 t0 n Lb fb := hW
    clear hp
    refine lv_iload hx hb dL_refuses_300 (lv_at hl 14 rfl) ?_
    refine lv_icmp_ne (tgt := 366) hx hb dL_refuses_302 (by decide) (fun h9 => absurd h9 (by decide)) (fun _ => ?_)
    refine lv_aload_n hx hb dL_refuses_305 rfl (lv_at hl 7 rfl) ?_
    refine lv_iconst (v := 4) hx hb dL_refuses_306 (by decide) ?_
    refine lv_iconst (v := 0) hx hb dL_refuses_307 (by decide) ?_
    refine lv_iconst (v := 0) hx hb dL_refuses_308 (by decide) ?_
    refine lv_iconst (v := 5) hx hb dL_refuses_309 (by decide) ?_
    refine W_cut (P := fun v => ¬ (-20 ≤ v.toInt ∧ v.toInt ≤ 20)) (pc' := 322) (rest := [.int 5, .int 0, .int 0, .int 4, .ref o]) (fun J => ?_) (fun v3 hv3 => ?_)
    · refine lv_iload hx hb dL_refuses_310 (lv_at hl 16 rfl) ?_
      refine lv_if_ne (tgt := 320) hx hb dL_refuses_312 (by decide) (fun c_312 => ?_) (fun c_312 => ?_)
      · refine lv_iload hx hb dL_refuses_320 (lv_at hl 0 rfl) ?_
        exact J _ (htw.2 c_312)
      · refine lv_bipush (v := (-21)) hx hb dL_refuses_315 (by decide) ?_
        refine lv_goto (tgt := 322) hx hb dL_refuses_317 (by decide) ?_
        exact J _ (by decide)
    refine px_ic hw (vx_runSX (As := [.ref o, .int 4, .int 0, .int 0, .int 5, .int v3]) (rest := []) CF (ra_add l hst g _ _ hW 0 0 5 v3 _) (vx_cwSW 6 hts gL_refuses_L_act rfl rfl rfl (by decide +kernel) ⟨Nat.le_of_ble_eq_true rfl, Nat.le_of_ble_eq_true rfl⟩) (pn_preS hw hs hN) rfl rfl hl.1 rfl (lv_room (Nat.le_of_ble_eq_true rfl)) dL_refuses_322 ⟨by show _ ≤ 1400; omega, by show _ ≤ 91000; omega⟩) (fun E9 ce9 q9 L9 f9 H9 locs9 he9 _ _ _ _ => False.elim he9) (fun r9 La fa Ha loca hp hw9 => ?_)
    clear hw hW
    try clear locb Hb fb Lb
    have hw := hw9
    clear hw9
    obtain ⟨e9, hW⟩ := hp.f4 cE_a pb0 f0 d5 hv3
    subst e9
    replace hW : Wd g o m p0 c0 t0 n La fa := hW
    clear hp
    refine lv_iload hx hb dL_refuses_325 (lv_at hl 14 rfl) ?_
    refine lv_icmp_ne (tgt := 366) hx hb dL_refuses_327 (by decide) (fun h9 => absurd h9 (by decide)) (fun _ => ?_)
    refine lv_aload_n hx hb dL_refuses_330 rfl (lv_at hl 7 rfl) ?_
    refine lv_bipush (v := 7) hx hb dL_refuses_331 (by decide) ?_
    refine lv_iload hx hb dL_refuses_333 (lv_at hl 1 rfl) ?_
    refine lv_iconst (v := 0) hx hb dL_refuses_335 (by decide) ?_
    refine lv_iconst (v := 0) hx hb dL_refuses_336 (by decide) ?_
    refine lv_iconst (v := 0) hx hb dL_refuses_337 (by decide) ?_
    refine px_ic hw (vx_runSX (As := [.ref o, .int 7, .int ch, .int 0, .int 0, .int 0]) (rest := []) CF (ra_takeBack l hst g _ _ hW ch 0 0 0 _) (vx_cwSW 6 hts gL_refuses_L_act rfl rfl rfl (by decide +kernel) ⟨Nat.le_of_ble_eq_true rfl, Nat.le_of_ble_eq_true rfl⟩) (pn_preS hw hs hN) rfl rfl hl.1 rfl (lv_room (Nat.le_of_ble_eq_true rfl)) dL_refuses_338 ⟨by show _ ≤ 1400; omega, by show _ ≤ 91000; omega⟩) (fun E9 ce9 q9 L9 f9 H9 locs9 he9 _ _ _ _ => False.elim he9) (fun r9 Lb fb Hb locb hp hw9 => ?_)
    clear hw hW
    try clear loca Ha fa La
    have hw := hw9
    clear hw9
    obtain ⟨e9, hW⟩ := hp.f1 cE_i hch
    subst e9
    replace hW : Wd g o m p0 c0 t0 n Lb fb := hW
    clear hp
    refine lv_iload hx hb dL_refuses_341 (lv_at hl 13 rfl) ?_
    refine lv_icmp_ne (tgt := 366) hx hb dL_refuses_343 (by decide) (fun h9 => absurd h9 (by decide)) (fun _ => ?_)
    refine lv_aload_n hx hb dL_refuses_346 rfl (lv_at hl 7 rfl) ?_
    refine lv_bipush (v := 8) hx hb dL_refuses_347 (by decide) ?_
    refine lv_iload hx hb dL_refuses_349 (lv_at hl 1 rfl) ?_
    refine lv_iconst (v := 0) hx hb dL_refuses_351 (by decide) ?_
    refine lv_iconst (v := 0) hx hb dL_refuses_352 (by decide) ?_
    refine lv_iconst (v := 0) hx hb dL_refuses_353 (by decide) ?_
    refine px_ic hw (vx_runSX (As := [.ref o, .int 8, .int ch, .int 0, .int 0, .int 0]) (rest := []) CF (ra_laidAnew l hst g _ _ hW ch 0 0 0 _) (vx_cwSW 6 hts gL_refuses_L_act rfl rfl rfl (by decide +kernel) ⟨Nat.le_of_ble_eq_true rfl, Nat.le_of_ble_eq_true rfl⟩) (pn_preS hw hs hN) rfl rfl hl.1 rfl (lv_room (Nat.le_of_ble_eq_true rfl)) dL_refuses_354 ⟨by show _ ≤ 1400; omega, by show _ ≤ 91000; omega⟩) (fun E9 ce9 q9 L9 f9 H9 locs9 he9 _ _ _ _ => False.elim he9) (fun r9 La fa Ha loca hp hw9 => ?_)
    clear hw hW
    try clear locb Hb fb Lb
    have hw := hw9
    clear hw9
    obtain ⟨e9, hW⟩ := hp.f1 cE_i hch
    subst e9
    replace hW : Wd g o m p0 c0 t0 n La fa := hW
    clear hp
    refine lv_iload hx hb dL_refuses_357 (lv_at hl 13 rfl) ?_
    refine lv_icmp_ne (tgt := 366) hx hb dL_refuses_359 (by decide) (fun h9 => absurd h9 (by decide)) (fun _ => ?_)
    refine lv_iconst (v := 1) hx hb dL_refuses_362 (by decide) ?_
    refine lv_goto (tgt := 367) hx hb dL_refuses_363 (by decide) ?_
    refine lv_istore (lv' := [(17, .int 1), (16, .int tw), (15, .int ch), (14, .int kn), (13, .int da), (12, .int fi), (11, .int po), (10, .int no), (0, .ref o), (1, .int (nI p0)), (2, .int (nI c0)), (3, .int (m 0 1)), (4, .int (pmM m (ix 0) (m 0 1) c0 t0)), (5, .int (nI (csM m (ix 0) (m 0 1) c0 t0))), (6, .int (-90000001)), (7, .int (-90000002)), (8, .int 2147483647), (9, .int (nI κ))]) hx hb dL_refuses_367 hl (by decide) rfl (fun ls hl => ?_)
    refine lv_iconst (v := 3) hx hb dL_refuses_369 (by decide) ?_
    refine lv_istore (lv' := [(18, .int 3), (17, .int 1), (16, .int tw), (15, .int ch), (14, .int kn), (13, .int da), (12, .int fi), (11, .int po), (10, .int no), (0, .ref o), (1, .int (nI p0)), (2, .int (nI c0)), (3, .int (m 0 1)), (4, .int (pmM m (ix 0) (m 0 1) c0 t0)), (5, .int (nI (csM m (ix 0) (m 0 1) c0 t0))), (6, .int (-90000001)), (7, .int (-90000002)), (8, .int 2147483647), (9, .int (nI κ))]) hx hb dL_refuses_370 hl (by decide) rfl (fun ls hl => ?_)
    refine lv_iload hx hb dL_refuses_372 (lv_at hl 0 rfl) ?_
    refine lv_iconst (v := 5) hx hb dL_refuses_374 (by decide) ?_
    refine lv_icmp_ge (tgt := 446) hx hb dL_refuses_375 (by decide) (fun h9 => absurd h9 (by decide)) (fun _ => ?_)
    refine lv_iload hx hb dL_refuses_378 (lv_at hl 1 rfl) ?_
    refine lv_if_eq (tgt := 437) hx hb dL_refuses_380 (by decide) (fun h9 => absurd h9 (by decide)) (fun _ => ?_)
    refine lv_aload_n hx hb dL_refuses_383 rfl (lv_at hl 9 rfl) ?_
    refine lv_iload hx hb dL_refuses_384 (lv_at hl 0 rfl) ?_
    refine lv_iload hx hb dL_refuses_386 (lv_at hl 7 rfl) ?_
    refine lv_iconst (v := 0) hx hb dL_refuses_388 (by decide) ?_
    refine lv_iconst (v := (-1)) hx hb dL_refuses_389 (by decide) ?_
    refine lv_bipush (v := 99) hx hb dL_refuses_390 (by decide) ?_
    refine px_ic hw (vx_runSX (As := [.ref o, .int 3, .int po, .int 0, .int (-1), .int 99]) (rest := []) CF (ra_change l hst g _ _ hW po 0 (-1) 99 _) (vx_cwSW 6 hts gL_refuses_L_act rfl rfl rfl (by decide +kernel) ⟨Nat.le_of_ble_eq_true rfl, Nat.le_of_ble_eq_true rfl⟩) (pn_preS hw hs hN) rfl rfl hl.1 rfl (lv_room (Nat.le_of_ble_eq_true rfl)) dL_refuses_392 ⟨by show _ ≤ 1400; omega, by show _ ≤ 91000; omega⟩) (fun E9 ce9 q9 L9 f9 H9 locs9 he9 _ _ _ _ => False.elim he9) (fun r9 Lb fb Hb locb hp hw9 => ?_)
    clear hw hW
    try clear loca Ha fa La
    have hw := hw9
    clear hw9
    obtain ⟨e9, hW⟩ := hp.f1 cE_i hpo
    subst e9
    replace hW : Wd g o m p0 c0 t0 n Lb fb := hW
    clear hp
    refine lv_iload hx hb dL_refuses_395 (lv_at hl 15 rfl) ?_
    refine lv_icmp_ne (tgt := 437) hx hb dL_refuses_397 (by decide) (fun h9 => absurd h9 (by decide)) (fun _ => ?_)
    refine lv_aload_n hx hb dL_refuses_400 rfl (lv_at hl 9 rfl) ?_
    refine lv_iload hx hb dL_refuses_401 (lv_at hl 0 rfl) ?_
    refine lv_iconst (v := 0) hx hb dL_refuses_403 (by decide) ?_
    refine lv_iload hx hb dL_refuses_404 (lv_at hl 6 rfl) ?_
    refine lv_iconst (v := (-1)) hx hb dL_refuses_406 (by decide) ?_
    refine lv_bipush (v := 99) hx hb dL_refuses_407 (by decide) ?_
    refine px_ic hw (vx_runSX (As := [.ref o, .int 3, .int 0, .int fi, .int (-1), .int 99]) (rest := []) CF (ra_change l hst g _ _ hW 0 fi (-1) 99 _) (vx_cwSW 6 hts gL_refuses_L_act rfl rfl rfl (by decide +kernel) ⟨Nat.le_of_ble_eq_true rfl, Nat.le_of_ble_eq_true rfl⟩) (pn_preS hw hs hN) rfl rfl hl.1 rfl (lv_room (Nat.le_of_ble_eq_true rfl)) dL_refuses_409 ⟨by show _ ≤ 1400; omega, by show _ ≤ 91000; omega⟩) (fun E9 ce9 q9 L9 f9 H9 locs9 he9 _ _ _ _ => False.elim he9) (fun r9 La fa Ha loca hp hw9 => ?_)
    clear hw hW
    try clear locb Hb fb Lb
    have hw := hw9
    clear hw9
    obtain ⟨e9, hW⟩ := hp.f2 cE_i pb0 hfi
    subst e9
    replace hW : Wd g o m p0 c0 t0 n La fa := hW
    clear hp
    refine lv_iload hx hb dL_refuses_412 (lv_at hl 15 rfl) ?_
    refine lv_icmp_ne (tgt := 437) hx hb dL_refuses_414 (by decide) (fun h9 => absurd h9 (by decide)) (fun _ => ?_)
    refine lv_aload_n hx hb dL_refuses_417 rfl (lv_at hl 9 rfl) ?_
    refine lv_iload hx hb dL_refuses_418 (lv_at hl 0 rfl) ?_
    refine lv_iconst (v := 0) hx hb dL_refuses_420 (by decide) ?_
    refine lv_iconst (v := 0) hx hb dL_refuses_421 (by decide) ?_
    refine lv_iload hx hb dL_refuses_422 (lv_at hl 5 rfl) ?_
    refine lv_iconst (v := 5) hx hb dL_refuses_424 (by decide) ?_
    refine px_ic hw (vx_runSX (As := [.ref o, .int 3, .int 0, .int 0, .int da, .int 5]) (rest := []) CF (ra_change l hst g _ _ hW 0 0 da 5 _) (vx_cwSW 6 hts gL_refuses_L_act rfl rfl rfl (by decide +kernel) ⟨Nat.le_of_ble_eq_true rfl, Nat.le_of_ble_eq_true rfl⟩) (pn_preS hw hs hN) rfl rfl hl.1 rfl (lv_room (Nat.le_of_ble_eq_true rfl)) dL_refuses_425 ⟨by show _ ≤ 1400; omega, by show _ ≤ 91000; omega⟩) (fun E9 ce9 q9 L9 f9 H9 locs9 he9 _ _ _ _ => False.elim he9) (fun r9 Lb fb Hb locb hp hw9 => ?_)
    clear hw hW
    try clear loca Ha fa La
    have hw := hw9
    clear hw9
    obtain ⟨e9, hW⟩ := hp.f3 cE_a pb0 f0 hda
    subst e9
    replace hW : Wd g o m p0 c0 t0 n Lb fb := hW
    clear hp
    refine lv_iload hx hb dL_refuses_428 (lv_at hl 16 rfl) ?_
    refine lv_icmp_ne (tgt := 437) hx hb dL_refuses_430 (by decide) (fun h9 => absurd h9 (by decide)) (fun _ => ?_)
    refine lv_iconst (v := 1) hx hb dL_refuses_433 (by decide) ?_
    refine lv_goto (tgt := 438) hx hb dL_refuses_434 (by decide) ?_
    refine lv_istore (lv' := [(17, .int 1), (18, .int 3), (16, .int tw), (15, .int ch), (14, .int kn), (13, .int da), (12, .int fi), (11, .int po), (10, .int no), (0, .ref o), (1, .int (nI p0)), (2, .int (nI c0)), (3, .int (m 0 1)), (4, .int (pmM m (ix 0) (m 0 1) c0 t0)), (5, .int (nI (csM m (ix 0) (m 0 1) c0 t0))), (6, .int (-90000001)), (7, .int (-90000002)), (8, .int 2147483647), (9, .int (nI κ))]) hx hb dL_refuses_438 hl (by decide) rfl (fun ls hl => ?_)
    refine lv_iinc (v := 4) (lv' := [(18, .int 4), (17, .int 1), (16, .int tw), (15, .int ch), (14, .int kn), (13, .int da), (12, .int fi), (11, .int po), (10, .int no), (0, .ref o), (1, .int (nI p0)), (2, .int (nI c0)), (3, .int (m 0 1)), (4, .int (pmM m (ix 0) (m 0 1) c0 t0)), (5, .int (nI (csM m (ix 0) (m 0 1) c0 t0))), (6, .int (-90000001)), (7, .int (-90000002)), (8, .int 2147483647), (9, .int (nI κ))]) hx hb dL_refuses_440 hl (k := 1) rfl (by decide) (by decide) rfl (fun ls hl => ?_)
    refine lv_goto (tgt := 372) hx hb dL_refuses_443 (by decide) ?_
    refine lv_iload hx hb dL_refuses_372 (lv_at hl 0 rfl) ?_
    refine lv_iconst (v := 5) hx hb dL_refuses_374 (by decide) ?_
    refine lv_icmp_ge (tgt := 446) hx hb dL_refuses_375 (by decide) (fun h9 => absurd h9 (by decide)) (fun _ => ?_)
    refine lv_iload hx hb dL_refuses_378 (lv_at hl 1 rfl) ?_
    refine lv_if_eq (tgt := 437) hx hb dL_refuses_380 (by decide) (fun h9 => absurd h9 (by decide)) (fun _ => ?_)
    refine lv_aload_n hx hb dL_refuses_383 rfl (lv_at hl 9 rfl) ?_
    refine lv_iload hx hb dL_refuses_384 (lv_at hl 0 rfl) ?_
    refine lv_iload hx hb dL_refuses_386 (lv_at hl 7 rfl) ?_
    refine lv_iconst (v := 0) hx hb dL_refuses_388 (by decide) ?_
    refine lv_iconst (v := (-1)) hx hb dL_refuses_389 (by decide) ?_
    refine lv_bipush (v := 99) hx hb dL_refuses_390 (by decide) ?_
    refine px_ic hw (vx_runSX (As := [.ref o, .int 4, .int po, .int 0, .int (-1), .int 99]) (rest := []) CF (ra_add l hst g _ _ hW po 0 (-1) 99 _) (vx_cwSW 6 hts gL_refuses_L_act rfl rfl rfl (by decide +kernel) ⟨Nat.le_of_ble_eq_true rfl, Nat.le_of_ble_eq_true rfl⟩) (pn_preS hw hs hN) rfl rfl hl.1 rfl (lv_room (Nat.le_of_ble_eq_true rfl)) dL_refuses_392 ⟨by show _ ≤ 1400; omega, by show _ ≤ 91000; omega⟩) (fun E9 ce9 q9 L9 f9 H9 locs9 he9 _ _ _ _ => False.elim he9) (fun r9 La fa Ha loca hp hw9 => ?_)
    clear hw hW
    try clear locb Hb fb Lb
    have hw := hw9
    clear hw9
    obtain ⟨e9, hW⟩ := hp.f1 cE_i hpo
    subst e9
    replace hW : Wd g o m p0 c0 t0 n La fa := hW
    clear hp
    refine lv_iload hx hb dL_refuses_395 (lv_at hl 15 rfl) ?_
    refine lv_icmp_ne (tgt := 437) hx hb dL_refuses_397 (by decide) (fun h9 => absurd h9 (by decide)) (fun _ => ?_)
    refine lv_aload_n hx hb dL_refuses_400 rfl (lv_at hl 9 rfl) ?_
    refine lv_iload hx hb dL_refuses_401 (lv_at hl 0 rfl) ?_
    refine lv_iconst (v := 0) hx hb dL_refuses_403 (by decide) ?_
    refine lv_iload hx hb dL_refuses_404 (lv_at hl 6 rfl) ?_
    refine lv_iconst (v := (-1)) hx hb dL_refuses_406 (by decide) ?_
    refine lv_bipush (v := 99) hx hb dL_refuses_407 (by decide) ?_
    refine px_ic hw (vx_runSX (As := [.ref o, .int 4, .int 0, .int fi, .int (-1), .int 99]) (rest := []) CF (ra_add l hst g _ _ hW 0 fi (-1) 99 _) (vx_cwSW 6 hts gL_refuses_L_act rfl rfl rfl (by decide +kernel) ⟨Nat.le_of_ble_eq_true rfl, Nat.le_of_ble_eq_true rfl⟩) (pn_preS hw hs hN) rfl rfl hl.1 rfl (lv_room (Nat.le_of_ble_eq_true rfl)) dL_refuses_409 ⟨by show _ ≤ 1400; omega, by show _ ≤ 91000; omega⟩) (fun E9 ce9 q9 L9 f9 H9 locs9 he9 _ _ _ _ => False.elim he9) (fun r9 Lb fb Hb locb hp hw9 => ?_)
    clear hw hW
    try clear loca Ha fa La
    have hw := hw9
    clear hw9
    obtain ⟨e9, hW⟩ := hp.f2 cE_i pb0 hfi
    subst e9
    replace hW : Wd g o m p0 c0 t0 n Lb fb := hW
    clear hp
    refine lv_iload hx hb dL_refuses_412 (lv_at hl 15 rfl) ?_
    refine lv_icmp_ne (tgt := 437) hx hb dL_refuses_414 (by decide) (fun h9 => absurd h9 (by decide)) (fun _ => ?_)
    refine lv_aload_n hx hb dL_refuses_417 rfl (lv_at hl 9 rfl) ?_
    refine lv_iload hx hb dL_refuses_418 (lv_at hl 0 rfl) ?_
    refine lv_iconst (v := 0) hx hb dL_refuses_420 (by decide) ?_
    refine lv_iconst (v := 0) hx hb dL_refuses_421 (by decide) ?_
    refine lv_iload hx hb dL_refuses_422 (lv_at hl 5 rfl) ?_
    refine lv_iconst (v := 5) hx hb dL_refuses_424 (by decide) ?_
    refine px_ic hw (vx_runSX (As := [.ref o, .int 4, .int 0, .int 0, .int da, .int 5]) (rest := []) CF (ra_add l hst g _ _ hW 0 0 da 5 _) (vx_cwSW 6 hts gL_refuses_L_act rfl rfl rfl (by decide +kernel) ⟨Nat.le_of_ble_eq_true rfl, Nat.le_of_ble_eq_true rfl⟩) (pn_preS hw hs hN) rfl rfl hl.1 rfl (lv_room (Nat.le_of_ble_eq_true rfl)) dL_refuses_425 ⟨by show _ ≤ 1400; omega, by show _ ≤ 91000; omega⟩) (fun E9 ce9 q9 L9 f9 H9 locs9 he9 _ _ _ _ => False.elim he9) (fun r9 La fa Ha loca hp hw9 => ?_)
    clear hw hW
    try clear locb Hb fb Lb
    have hw := hw9
    clear hw9
    obtain ⟨e9, hW⟩ := hp.f3 cE_a pb0 f0 hda
    subst e9
    replace hW : Wd g o m p0 c0 t0 n La fa := hW
    clear hp
    refine lv_iload hx hb dL_refuses_428 (lv_at hl 16 rfl) ?_
    refine lv_icmp_ne (tgt := 437) hx hb dL_refuses_430 (by decide) (fun h9 => absurd h9 (by decide)) (fun _ => ?_)
    refine lv_iconst (v := 1) hx hb dL_refuses_433 (by decide) ?_
    refine lv_goto (tgt := 438) hx hb dL_refuses_434 (by decide) ?_
    refine lv_istore (lv' := [(17, .int 1), (18, .int 4), (16, .int tw), (15, .int ch), (14, .int kn), (13, .int da), (12, .int fi), (11, .int po), (10, .int no), (0, .ref o), (1, .int (nI p0)), (2, .int (nI c0)), (3, .int (m 0 1)), (4, .int (pmM m (ix 0) (m 0 1) c0 t0)), (5, .int (nI (csM m (ix 0) (m 0 1) c0 t0))), (6, .int (-90000001)), (7, .int (-90000002)), (8, .int 2147483647), (9, .int (nI κ))]) hx hb dL_refuses_438 hl (by decide) rfl (fun ls hl => ?_)
    refine lv_iinc (v := 5) (lv' := [(18, .int 5), (17, .int 1), (16, .int tw), (15, .int ch), (14, .int kn), (13, .int da), (12, .int fi), (11, .int po), (10, .int no), (0, .ref o), (1, .int (nI p0)), (2, .int (nI c0)), (3, .int (m 0 1)), (4, .int (pmM m (ix 0) (m 0 1) c0 t0)), (5, .int (nI (csM m (ix 0) (m 0 1) c0 t0))), (6, .int (-90000001)), (7, .int (-90000002)), (8, .int 2147483647), (9, .int (nI κ))]) hx hb dL_refuses_440 hl (k := 1) rfl (by decide) (by decide) rfl (fun ls hl => ?_)
    refine lv_goto (tgt := 372) hx hb dL_refuses_443 (by decide) ?_
    refine lv_iload hx hb dL_refuses_372 (lv_at hl 0 rfl) ?_
    refine lv_iconst (v := 5) hx hb dL_refuses_374 (by decide) ?_
    refine lv_icmp_ge (tgt := 446) hx hb dL_refuses_375 (by decide) (fun _ => ?_) (fun h9 => absurd h9 (by decide))
    refine lv_iconst (v := 5) hx hb dL_refuses_446 (by decide) ?_
    refine lv_istore (lv' := [(18, .int 5), (17, .int 1), (16, .int tw), (15, .int ch), (14, .int kn), (13, .int da), (12, .int fi), (11, .int po), (10, .int no), (0, .ref o), (1, .int (nI p0)), (2, .int (nI c0)), (3, .int (m 0 1)), (4, .int (pmM m (ix 0) (m 0 1) c0 t0)), (5, .int (nI (csM m (ix 0) (m 0 1) c0 t0))), (6, .int (-90000001)), (7, .int (-90000002)), (8, .int 2147483647), (9, .int (nI κ))]) hx hb dL_refuses_447 hl (by decide) rfl (fun ls hl => ?_)
    refine lv_iload hx hb dL_refuses_449 (lv_at hl 0 rfl) ?_
    refine lv_bipush (v := 7) hx hb dL_refuses_451 (by decide) ?_
    refine lv_icmp_ge (tgt := 506) hx hb dL_refuses_453 (by decide) (fun h9 => absurd h9 (by decide)) (fun _ => ?_)
    refine lv_iload hx hb dL_refuses_456 (lv_at hl 1 rfl) ?_
    refine lv_if_eq (tgt := 497) hx hb dL_refuses_458 (by decide) (fun h9 => absurd h9 (by decide)) (fun _ => ?_)
    refine lv_aload_n hx hb dL_refuses_461 rfl (lv_at hl 9 rfl) ?_
    refine lv_iload hx hb dL_refuses_462 (lv_at hl 0 rfl) ?_
    refine lv_iload hx hb dL_refuses_464 (lv_at hl 7 rfl) ?_
    refine lv_iconst (v := (-1)) hx hb dL_refuses_466 (by decide) ?_
    refine lv_iconst (v := 0) hx hb dL_refuses_467 (by decide) ?_
    refine lv_iconst (v := 0) hx hb dL_refuses_468 (by decide) ?_
    refine px_ic hw (vx_runSX (As := [.ref o, .int 5, .int po, .int (-1), .int 0, .int 0]) (rest := []) CF (ra_cancel l hst g _ _ hW po (-1) 0 0 _) (vx_cwSW 6 hts gL_refuses_L_act rfl rfl rfl (by decide +kernel) ⟨Nat.le_of_ble_eq_true rfl, Nat.le_of_ble_eq_true rfl⟩) (pn_preS hw hs hN) rfl rfl hl.1 rfl (lv_room (Nat.le_of_ble_eq_true rfl)) dL_refuses_469 ⟨by show _ ≤ 1400; omega, by show _ ≤ 91000; omega⟩) (fun E9 ce9 q9 L9 f9 H9 locs9 he9 _ _ _ _ => False.elim he9) (fun r9 Lb fb Hb locb hp hw9 => ?_)
    clear hw hW
    try clear loca Ha fa La
    have hw := hw9
    clear hw9
    obtain ⟨e9, hW⟩ := hp.f1 cE_i hpo
    subst e9
    replace hW : Wd g o m p0 c0 t0 n Lb fb := hW
    clear hp
    refine lv_iload hx hb dL_refuses_472 (lv_at hl 15 rfl) ?_
    refine lv_icmp_ne (tgt := 497) hx hb dL_refuses_474 (by decide) (fun h9 => absurd h9 (by decide)) (fun _ => ?_)
    refine lv_aload_n hx hb dL_refuses_477 rfl (lv_at hl 9 rfl) ?_
    refine lv_iload hx hb dL_refuses_478 (lv_at hl 0 rfl) ?_
    refine lv_iconst (v := 0) hx hb dL_refuses_480 (by decide) ?_
    refine lv_iload hx hb dL_refuses_481 (lv_at hl 5 rfl) ?_
    refine lv_iconst (v := 0) hx hb dL_refuses_483 (by decide) ?_
    refine lv_iconst (v := 0) hx hb dL_refuses_484 (by decide) ?_
    refine px_ic hw (vx_runSX (As := [.ref o, .int 5, .int 0, .int da, .int 0, .int 0]) (rest := []) CF (ra_cancel l hst g _ _ hW 0 da 0 0 _) (vx_cwSW 6 hts gL_refuses_L_act rfl rfl rfl (by decide +kernel) ⟨Nat.le_of_ble_eq_true rfl, Nat.le_of_ble_eq_true rfl⟩) (pn_preS hw hs hN) rfl rfl hl.1 rfl (lv_room (Nat.le_of_ble_eq_true rfl)) dL_refuses_485 ⟨by show _ ≤ 1400; omega, by show _ ≤ 91000; omega⟩) (fun E9 ce9 q9 L9 f9 H9 locs9 he9 _ _ _ _ => False.elim he9) (fun r9 La fa Ha loca hp hw9 => ?_)
    clear hw hW
    try clear locb Hb fb Lb
    have hw := hw9
    clear hw9
    obtain ⟨e9, hW⟩ := hp.f2 cE_a pb0 hda
    subst e9
    replace hW : Wd g o m p0 c0 t0 n La fa := hW
    clear hp
    refine lv_iload hx hb dL_refuses_488 (lv_at hl 16 rfl) ?_
    refine lv_icmp_ne (tgt := 497) hx hb dL_refuses_490 (by decide) (fun h9 => absurd h9 (by decide)) (fun _ => ?_)
    refine lv_iconst (v := 1) hx hb dL_refuses_493 (by decide) ?_
    refine lv_goto (tgt := 498) hx hb dL_refuses_494 (by decide) ?_
    refine lv_istore (lv' := [(17, .int 1), (18, .int 5), (16, .int tw), (15, .int ch), (14, .int kn), (13, .int da), (12, .int fi), (11, .int po), (10, .int no), (0, .ref o), (1, .int (nI p0)), (2, .int (nI c0)), (3, .int (m 0 1)), (4, .int (pmM m (ix 0) (m 0 1) c0 t0)), (5, .int (nI (csM m (ix 0) (m 0 1) c0 t0))), (6, .int (-90000001)), (7, .int (-90000002)), (8, .int 2147483647), (9, .int (nI κ))]) hx hb dL_refuses_498 hl (by decide) rfl (fun ls hl => ?_)
    refine lv_iinc (v := 6) (lv' := [(18, .int 6), (17, .int 1), (16, .int tw), (15, .int ch), (14, .int kn), (13, .int da), (12, .int fi), (11, .int po), (10, .int no), (0, .ref o), (1, .int (nI p0)), (2, .int (nI c0)), (3, .int (m 0 1)), (4, .int (pmM m (ix 0) (m 0 1) c0 t0)), (5, .int (nI (csM m (ix 0) (m 0 1) c0 t0))), (6, .int (-90000001)), (7, .int (-90000002)), (8, .int 2147483647), (9, .int (nI κ))]) hx hb dL_refuses_500 hl (k := 1) rfl (by decide) (by decide) rfl (fun ls hl => ?_)
    refine lv_goto (tgt := 449) hx hb dL_refuses_503 (by decide) ?_
    refine lv_iload hx hb dL_refuses_449 (lv_at hl 0 rfl) ?_
    refine lv_bipush (v := 7) hx hb dL_refuses_451 (by decide) ?_
    refine lv_icmp_ge (tgt := 506) hx hb dL_refuses_453 (by decide) (fun h9 => absurd h9 (by decide)) (fun _ => ?_)
    refine lv_iload hx hb dL_refuses_456 (lv_at hl 1 rfl) ?_
    refine lv_if_eq (tgt := 497) hx hb dL_refuses_458 (by decide) (fun h9 => absurd h9 (by decide)) (fun _ => ?_)
    refine lv_aload_n hx hb dL_refuses_461 rfl (lv_at hl 9 rfl) ?_
    refine lv_iload hx hb dL_refuses_462 (lv_at hl 0 rfl) ?_
    refine lv_iload hx hb dL_refuses_464 (lv_at hl 7 rfl) ?_
    refine lv_iconst (v := (-1)) hx hb dL_refuses_466 (by decide) ?_
    refine lv_iconst (v := 0) hx hb dL_refuses_467 (by decide) ?_
    refine lv_iconst (v := 0) hx hb dL_refuses_468 (by decide) ?_
    refine px_ic hw (vx_runSX (As := [.ref o, .int 6, .int po, .int (-1), .int 0, .int 0]) (rest := []) CF (ra_reinstate l hst g _ _ hW po (-1) 0 0 _) (vx_cwSW 6 hts gL_refuses_L_act rfl rfl rfl (by decide +kernel) ⟨Nat.le_of_ble_eq_true rfl, Nat.le_of_ble_eq_true rfl⟩) (pn_preS hw hs hN) rfl rfl hl.1 rfl (lv_room (Nat.le_of_ble_eq_true rfl)) dL_refuses_469 ⟨by show _ ≤ 1400; omega, by show _ ≤ 91000; omega⟩) (fun E9 ce9 q9 L9 f9 H9 locs9 he9 _ _ _ _ => False.elim he9) (fun r9 Lb fb Hb locb hp hw9 => ?_)
    clear hw hW
    try clear loca Ha fa La
    have hw := hw9
    clear hw9
    obtain ⟨e9, hW⟩ := hp.f1 cE_i hpo
    subst e9
    replace hW : Wd g o m p0 c0 t0 n Lb fb := hW
    clear hp
    refine lv_iload hx hb dL_refuses_472 (lv_at hl 15 rfl) ?_
    refine lv_icmp_ne (tgt := 497) hx hb dL_refuses_474 (by decide) (fun h9 => absurd h9 (by decide)) (fun _ => ?_)
    refine lv_aload_n hx hb dL_refuses_477 rfl (lv_at hl 9 rfl) ?_
    refine lv_iload hx hb dL_refuses_478 (lv_at hl 0 rfl) ?_
    refine lv_iconst (v := 0) hx hb dL_refuses_480 (by decide) ?_
    refine lv_iload hx hb dL_refuses_481 (lv_at hl 5 rfl) ?_
    refine lv_iconst (v := 0) hx hb dL_refuses_483 (by decide) ?_
    refine lv_iconst (v := 0) hx hb dL_refuses_484 (by decide) ?_
    refine px_ic hw (vx_runSX (As := [.ref o, .int 6, .int 0, .int da, .int 0, .int 0]) (rest := []) CF (ra_reinstate l hst g _ _ hW 0 da 0 0 _) (vx_cwSW 6 hts gL_refuses_L_act rfl rfl rfl (by decide +kernel) ⟨Nat.le_of_ble_eq_true rfl, Nat.le_of_ble_eq_true rfl⟩) (pn_preS hw hs hN) rfl rfl hl.1 rfl (lv_room (Nat.le_of_ble_eq_true rfl)) dL_refuses_485 ⟨by show _ ≤ 1400; omega, by show _ ≤ 91000; omega⟩) (fun E9 ce9 q9 L9 f9 H9 locs9 he9 _ _ _ _ => False.elim he9) (fun r9 La fa Ha loca hp hw9 => ?_)
    clear hw hW
    try clear locb Hb fb Lb
    have hw := hw9
    clear hw9
    obtain ⟨e9, hW⟩ := hp.f2 cE_a pb0 hda
    subst e9
    replace hW : Wd g o m p0 c0 t0 n La fa := hW
    clear hp
    refine lv_iload hx hb dL_refuses_488 (lv_at hl 16 rfl) ?_
    refine lv_icmp_ne (tgt := 497) hx hb dL_refuses_490 (by decide) (fun h9 => absurd h9 (by decide)) (fun _ => ?_)
    refine lv_iconst (v := 1) hx hb dL_refuses_493 (by decide) ?_
    refine lv_goto (tgt := 498) hx hb dL_refuses_494 (by decide) ?_
    refine lv_istore (lv' := [(17, .int 1), (18, .int 6), (16, .int tw), (15, .int ch), (14, .int kn), (13, .int da), (12, .int fi), (11, .int po), (10, .int no), (0, .ref o), (1, .int (nI p0)), (2, .int (nI c0)), (3, .int (m 0 1)), (4, .int (pmM m (ix 0) (m 0 1) c0 t0)), (5, .int (nI (csM m (ix 0) (m 0 1) c0 t0))), (6, .int (-90000001)), (7, .int (-90000002)), (8, .int 2147483647), (9, .int (nI κ))]) hx hb dL_refuses_498 hl (by decide) rfl (fun ls hl => ?_)
    refine lv_iinc (v := 7) (lv' := [(18, .int 7), (17, .int 1), (16, .int tw), (15, .int ch), (14, .int kn), (13, .int da), (12, .int fi), (11, .int po), (10, .int no), (0, .ref o), (1, .int (nI p0)), (2, .int (nI c0)), (3, .int (m 0 1)), (4, .int (pmM m (ix 0) (m 0 1) c0 t0)), (5, .int (nI (csM m (ix 0) (m 0 1) c0 t0))), (6, .int (-90000001)), (7, .int (-90000002)), (8, .int 2147483647), (9, .int (nI κ))]) hx hb dL_refuses_500 hl (k := 1) rfl (by decide) (by decide) rfl (fun ls hl => ?_)
    refine lv_goto (tgt := 449) hx hb dL_refuses_503 (by decide) ?_
    refine lv_iload hx hb dL_refuses_449 (lv_at hl 0 rfl) ?_
    refine lv_bipush (v := 7) hx hb dL_refuses_451 (by decide) ?_
    refine lv_icmp_ge (tgt := 506) hx hb dL_refuses_453 (by decide) (fun _ => ?_) (fun h9 => absurd h9 (by decide))
    refine lv_iload hx hb dL_refuses_506 (lv_at hl 1 rfl) ?_
    refine lv_if_eq (tgt := 579) hx hb dL_refuses_508 (by decide) (fun h9 => absurd h9 (by decide)) (fun _ => ?_)
    refine lv_aload_n hx hb dL_refuses_511 rfl (lv_at hl 9 rfl) ?_
    refine lv_bipush (v := 9) hx hb dL_refuses_512 (by decide) ?_
    refine lv_iload hx hb dL_refuses_514 (lv_at hl 7 rfl) ?_
    refine lv_iconst (v := 0) hx hb dL_refuses_516 (by decide) ?_
    refine lv_iconst (v := (-1)) hx hb dL_refuses_517 (by decide) ?_
    refine lv_iconst (v := 0) hx hb dL_refuses_518 (by decide) ?_
    refine px_ic hw (vx_runSX (As := [.ref o, .int 9, .int po, .int 0, .int (-1), .int 0]) (rest := []) CF (ra_value l hst g _ _ hW po 0 (-1) 0 _) (vx_cwSW 6 hts gL_refuses_L_act rfl rfl rfl (by decide +kernel) ⟨Nat.le_of_ble_eq_true rfl, Nat.le_of_ble_eq_true rfl⟩) (pn_preS hw hs hN) rfl rfl hl.1 rfl (lv_room (Nat.le_of_ble_eq_true rfl)) dL_refuses_519 ⟨by show _ ≤ 1400; omega, by show _ ≤ 91000; omega⟩) (fun E9 ce9 q9 L9 f9 H9 locs9 he9 _ _ _ _ => False.elim he9) (fun r9 Lb fb Hb locb hp hw9 => ?_)
    clear hw hW
    try clear loca Ha fa La
    have hw := hw9
    clear hw9
    obtain ⟨e9, hW⟩ := hp.f1 cE_i hpo
    subst e9
    replace hW : Wd g o m p0 c0 t0 n Lb fb := hW
    clear hp
    refine lv_iload hx hb dL_refuses_522 (lv_at hl 15 rfl) ?_
    refine lv_icmp_ne (tgt := 579) hx hb dL_refuses_524 (by decide) (fun h9 => absurd h9 (by decide)) (fun _ => ?_)
    refine lv_aload_n hx hb dL_refuses_527 rfl (lv_at hl 9 rfl) ?_
    refine lv_bipush (v := 9) hx hb dL_refuses_528 (by decide) ?_
    refine lv_iconst (v := 0) hx hb dL_refuses_530 (by decide) ?_
    refine lv_iload hx hb dL_refuses_531 (lv_at hl 6 rfl) ?_
    refine lv_iconst (v := (-1)) hx hb dL_refuses_533 (by decide) ?_
    refine lv_iconst (v := 0) hx hb dL_refuses_534 (by decide) ?_
    refine px_ic hw (vx_runSX (As := [.ref o, .int 9, .int 0, .int fi, .int (-1), .int 0]) (rest := []) CF (ra_value l hst g _ _ hW 0 fi (-1) 0 _) (vx_cwSW 6 hts gL_refuses_L_act rfl rfl rfl (by decide +kernel) ⟨Nat.le_of_ble_eq_true rfl, Nat.le_of_ble_eq_true rfl⟩) (pn_preS hw hs hN) rfl rfl hl.1 rfl (lv_room (Nat.le_of_ble_eq_true rfl)) dL_refuses_535 ⟨by show _ ≤ 1400; omega, by show _ ≤ 91000; omega⟩) (fun E9 ce9 q9 L9 f9 H9 locs9 he9 _ _ _ _ => False.elim he9) (fun r9 La fa Ha loca hp hw9 => ?_)
    clear hw hW
    try clear locb Hb fb Lb
    have hw := hw9
    clear hw9
    obtain ⟨e9, hW⟩ := hp.f2 cE_i pb0 hfi
    subst e9
    replace hW : Wd g o m p0 c0 t0 n La fa := hW
    clear hp
    refine lv_iload hx hb dL_refuses_538 (lv_at hl 15 rfl) ?_
    refine lv_icmp_ne (tgt := 579) hx hb dL_refuses_540 (by decide) (fun h9 => absurd h9 (by decide)) (fun _ => ?_)
    refine lv_aload_n hx hb dL_refuses_543 rfl (lv_at hl 9 rfl) ?_
    refine lv_bipush (v := 9) hx hb dL_refuses_544 (by decide) ?_
    refine lv_iconst (v := 0) hx hb dL_refuses_546 (by decide) ?_
    refine lv_iconst (v := 0) hx hb dL_refuses_547 (by decide) ?_
    refine lv_iload hx hb dL_refuses_548 (lv_at hl 5 rfl) ?_
    refine lv_iconst (v := 0) hx hb dL_refuses_550 (by decide) ?_
    refine px_ic hw (vx_runSX (As := [.ref o, .int 9, .int 0, .int 0, .int da, .int 0]) (rest := []) CF (ra_value l hst g _ _ hW 0 0 da 0 _) (vx_cwSW 6 hts gL_refuses_L_act rfl rfl rfl (by decide +kernel) ⟨Nat.le_of_ble_eq_true rfl, Nat.le_of_ble_eq_true rfl⟩) (pn_preS hw hs hN) rfl rfl hl.1 rfl (lv_room (Nat.le_of_ble_eq_true rfl)) dL_refuses_551 ⟨by show _ ≤ 1400; omega, by show _ ≤ 91000; omega⟩) (fun E9 ce9 q9 L9 f9 H9 locs9 he9 _ _ _ _ => False.elim he9) (fun r9 Lb fb Hb locb hp hw9 => ?_)
    clear hw hW
    try clear loca Ha fa La
    have hw := hw9
    clear hw9
    obtain ⟨e9, hW⟩ := hp.f3 cE_a pb0 f0 hda
    subst e9
    replace hW : Wd g o m p0 c0 t0 n Lb fb := hW
    clear hp
    refine lv_iload hx hb dL_refuses_554 (lv_at hl 16 rfl) ?_
    refine lv_icmp_ne (tgt := 579) hx hb dL_refuses_556 (by decide) (fun h9 => absurd h9 (by decide)) (fun _ => ?_)
    refine lv_aload_n hx hb dL_refuses_559 rfl (lv_at hl 9 rfl) ?_
    refine lv_bipush (v := 9) hx hb dL_refuses_560 (by decide) ?_
    refine lv_iconst (v := 0) hx hb dL_refuses_562 (by decide) ?_
    refine lv_iconst (v := 0) hx hb dL_refuses_563 (by decide) ?_
    refine lv_iconst (v := 0) hx hb dL_refuses_564 (by decide) ?_
    refine lv_iload hx hb dL_refuses_565 (lv_at hl 4 rfl) ?_
    refine px_ic hw (vx_runSX (As := [.ref o, .int 9, .int 0, .int 0, .int 0, .int kn]) (rest := []) CF (ra_value l hst g _ _ hW 0 0 0 kn _) (vx_cwSW 6 hts gL_refuses_L_act rfl rfl rfl (by decide +kernel) ⟨Nat.le_of_ble_eq_true rfl, Nat.le_of_ble_eq_true rfl⟩) (pn_preS hw hs hN) rfl rfl hl.1 rfl (lv_room (Nat.le_of_ble_eq_true rfl)) dL_refuses_567 ⟨by show _ ≤ 1400; omega, by show _ ≤ 91000; omega⟩) (fun E9 ce9 q9 L9 f9 H9 locs9 he9 _ _ _ _ => False.elim he9) (fun r9 La fa Ha loca hp hw9 => ?_)
    clear hw hW
    try clear locb Hb fb Lb
    have hw := hw9
    clear hw9
    obtain ⟨e9, hW⟩ := hp.f4 cE_a pb0 f0 d0 hkn
    subst e9
    replace hW : Wd g o m p0 c0 t0 n La fa := hW
    clear hp
    refine lv_iload hx hb dL_refuses_570 (lv_at hl 16 rfl) ?_
    refine lv_icmp_ne (tgt := 579) hx hb dL_refuses_572 (by decide) (fun h9 => absurd h9 (by decide)) (fun _ => ?_)
    refine lv_iconst (v := 1) hx hb dL_refuses_575 (by decide) ?_
    refine lv_goto (tgt := 580) hx hb dL_refuses_576 (by decide) ?_
    refine lv_istore (lv' := [(17, .int 1), (18, .int 7), (16, .int tw), (15, .int ch), (14, .int kn), (13, .int da), (12, .int fi), (11, .int po), (10, .int no), (0, .ref o), (1, .int (nI p0)), (2, .int (nI c0)), (3, .int (m 0 1)), (4, .int (pmM m (ix 0) (m 0 1) c0 t0)), (5, .int (nI (csM m (ix 0) (m 0 1) c0 t0))), (6, .int (-90000001)), (7, .int (-90000002)), (8, .int 2147483647), (9, .int (nI κ))]) hx hb dL_refuses_580 hl (by decide) rfl (fun ls hl => ?_)
    refine lv_bipush (v := 10) hx hb dL_refuses_582 (by decide) ?_
    refine lv_istore (lv' := [(18, .int 10), (17, .int 1), (16, .int tw), (15, .int ch), (14, .int kn), (13, .int da), (12, .int fi), (11, .int po), (10, .int no), (0, .ref o), (1, .int (nI p0)), (2, .int (nI c0)), (3, .int (m 0 1)), (4, .int (pmM m (ix 0) (m 0 1) c0 t0)), (5, .int (nI (csM m (ix 0) (m 0 1) c0 t0))), (6, .int (-90000001)), (7, .int (-90000002)), (8, .int 2147483647), (9, .int (nI κ))]) hx hb dL_refuses_584 hl (by decide) rfl (fun ls hl => ?_)
    refine lv_iload hx hb dL_refuses_586 (lv_at hl 0 rfl) ?_
    refine lv_bipush (v := 12) hx hb dL_refuses_588 (by decide) ?_
    refine lv_icmp_ge (tgt := 659) hx hb dL_refuses_590 (by decide) (fun h9 => absurd h9 (by decide)) (fun _ => ?_)
    refine lv_iload hx hb dL_refuses_593 (lv_at hl 1 rfl) ?_
    refine lv_if_eq (tgt := 650) hx hb dL_refuses_595 (by decide) (fun h9 => absurd h9 (by decide)) (fun _ => ?_)
    refine lv_aload_n hx hb dL_refuses_598 rfl (lv_at hl 9 rfl) ?_
    refine lv_iload hx hb dL_refuses_599 (lv_at hl 0 rfl) ?_
    refine lv_iload hx hb dL_refuses_601 (lv_at hl 7 rfl) ?_
    refine lv_iconst (v := (-1)) hx hb dL_refuses_603 (by decide) ?_
    refine lv_iconst (v := 0) hx hb dL_refuses_604 (by decide) ?_
    refine lv_iconst (v := 0) hx hb dL_refuses_605 (by decide) ?_
    refine px_ic hw (vx_runSX (As := [.ref o, .int 10, .int po, .int (-1), .int 0, .int 0]) (rest := []) CF (ra_isCovered l hst g _ _ hW po (-1) 0 0 _) (vx_cwSW 6 hts gL_refuses_L_act rfl rfl rfl (by decide +kernel) ⟨Nat.le_of_ble_eq_true rfl, Nat.le_of_ble_eq_true rfl⟩) (pn_preS hw hs hN) rfl rfl hl.1 rfl (lv_room (Nat.le_of_ble_eq_true rfl)) dL_refuses_606 ⟨by show _ ≤ 1400; omega, by show _ ≤ 91000; omega⟩) (fun E9 ce9 q9 L9 f9 H9 locs9 he9 _ _ _ _ => False.elim he9) (fun r9 Lb fb Hb locb hp hw9 => ?_)
    clear hw hW
    try clear loca Ha fa La
    have hw := hw9
    clear hw9
    obtain ⟨e9, hW⟩ := hp.f1 cE_i hpo
    subst e9
    replace hW : Wd g o m p0 c0 t0 n Lb fb := hW
    clear hp
    refine lv_iload hx hb dL_refuses_609 (lv_at hl 15 rfl) ?_
    refine lv_icmp_ne (tgt := 650) hx hb dL_refuses_611 (by decide) (fun h9 => absurd h9 (by decide)) (fun _ => ?_)
    refine lv_aload_n hx hb dL_refuses_614 rfl (lv_at hl 9 rfl) ?_
    refine lv_iload hx hb dL_refuses_615 (lv_at hl 0 rfl) ?_
    refine lv_iconst (v := 0) hx hb dL_refuses_617 (by decide) ?_
    refine lv_iload hx hb dL_refuses_618 (lv_at hl 5 rfl) ?_
    refine lv_iconst (v := 0) hx hb dL_refuses_620 (by decide) ?_
    refine lv_iconst (v := 0) hx hb dL_refuses_621 (by decide) ?_
    refine px_ic hw (vx_runSX (As := [.ref o, .int 10, .int 0, .int da, .int 0, .int 0]) (rest := []) CF (ra_isCovered l hst g _ _ hW 0 da 0 0 _) (vx_cwSW 6 hts gL_refuses_L_act rfl rfl rfl (by decide +kernel) ⟨Nat.le_of_ble_eq_true rfl, Nat.le_of_ble_eq_true rfl⟩) (pn_preS hw hs hN) rfl rfl hl.1 rfl (lv_room (Nat.le_of_ble_eq_true rfl)) dL_refuses_622 ⟨by show _ ≤ 1400; omega, by show _ ≤ 91000; omega⟩) (fun E9 ce9 q9 L9 f9 H9 locs9 he9 _ _ _ _ => False.elim he9) (fun r9 La fa Ha loca hp hw9 => ?_)
    clear hw hW
    try clear locb Hb fb Lb
    have hw := hw9
    clear hw9
    obtain ⟨e9, hW⟩ := hp.f2 cE_a pb0 hda
    subst e9
    replace hW : Wd g o m p0 c0 t0 n La fa := hW
    clear hp
    refine lv_iload hx hb dL_refuses_625 (lv_at hl 16 rfl) ?_
    refine lv_icmp_ne (tgt := 650) hx hb dL_refuses_627 (by decide) (fun h9 => absurd h9 (by decide)) (fun _ => ?_)
    refine lv_aload_n hx hb dL_refuses_630 rfl (lv_at hl 9 rfl) ?_
    refine lv_iload hx hb dL_refuses_631 (lv_at hl 0 rfl) ?_
    refine lv_iconst (v := 0) hx hb dL_refuses_633 (by decide) ?_
    refine lv_iconst (v := 0) hx hb dL_refuses_634 (by decide) ?_
    refine lv_iload hx hb dL_refuses_635 (lv_at hl 4 rfl) ?_
    refine lv_iconst (v := 0) hx hb dL_refuses_637 (by decide) ?_
    refine px_ic hw (vx_runSX (As := [.ref o, .int 10, .int 0, .int 0, .int kn, .int 0]) (rest := []) CF (ra_isCovered l hst g _ _ hW 0 0 kn 0 _) (vx_cwSW 6 hts gL_refuses_L_act rfl rfl rfl (by decide +kernel) ⟨Nat.le_of_ble_eq_true rfl, Nat.le_of_ble_eq_true rfl⟩) (pn_preS hw hs hN) rfl rfl hl.1 rfl (lv_room (Nat.le_of_ble_eq_true rfl)) dL_refuses_638 ⟨by show _ ≤ 1400; omega, by show _ ≤ 91000; omega⟩) (fun E9 ce9 q9 L9 f9 H9 locs9 he9 _ _ _ _ => False.elim he9) (fun r9 Lb fb Hb locb hp hw9 => ?_)
    clear hw hW
    try clear loca Ha fa La
    have hw := hw9
    clear hw9
    obtain ⟨e9, hW⟩ := hp.f3 cE_a pb0 d0 hkn
    subst e9
    replace hW : Wd g o m p0 c0 t0 n Lb fb := hW
    clear hp
    refine lv_iload hx hb dL_refuses_641 (lv_at hl 16 rfl) ?_
    refine lv_icmp_ne (tgt := 650) hx hb dL_refuses_643 (by decide) (fun h9 => absurd h9 (by decide)) (fun _ => ?_)
    refine lv_iconst (v := 1) hx hb dL_refuses_646 (by decide) ?_
    refine lv_goto (tgt := 651) hx hb dL_refuses_647 (by decide) ?_
    refine lv_istore (lv' := [(17, .int 1), (18, .int 10), (16, .int tw), (15, .int ch), (14, .int kn), (13, .int da), (12, .int fi), (11, .int po), (10, .int no), (0, .ref o), (1, .int (nI p0)), (2, .int (nI c0)), (3, .int (m 0 1)), (4, .int (pmM m (ix 0) (m 0 1) c0 t0)), (5, .int (nI (csM m (ix 0) (m 0 1) c0 t0))), (6, .int (-90000001)), (7, .int (-90000002)), (8, .int 2147483647), (9, .int (nI κ))]) hx hb dL_refuses_651 hl (by decide) rfl (fun ls hl => ?_)
    refine lv_iinc (v := 11) (lv' := [(18, .int 11), (17, .int 1), (16, .int tw), (15, .int ch), (14, .int kn), (13, .int da), (12, .int fi), (11, .int po), (10, .int no), (0, .ref o), (1, .int (nI p0)), (2, .int (nI c0)), (3, .int (m 0 1)), (4, .int (pmM m (ix 0) (m 0 1) c0 t0)), (5, .int (nI (csM m (ix 0) (m 0 1) c0 t0))), (6, .int (-90000001)), (7, .int (-90000002)), (8, .int 2147483647), (9, .int (nI κ))]) hx hb dL_refuses_653 hl (k := 1) rfl (by decide) (by decide) rfl (fun ls hl => ?_)
    refine lv_goto (tgt := 586) hx hb dL_refuses_656 (by decide) ?_
    refine lv_iload hx hb dL_refuses_586 (lv_at hl 0 rfl) ?_
    refine lv_bipush (v := 12) hx hb dL_refuses_588 (by decide) ?_
    refine lv_icmp_ge (tgt := 659) hx hb dL_refuses_590 (by decide) (fun h9 => absurd h9 (by decide)) (fun _ => ?_)
    refine lv_iload hx hb dL_refuses_593 (lv_at hl 1 rfl) ?_
    refine lv_if_eq (tgt := 650) hx hb dL_refuses_595 (by decide) (fun h9 => absurd h9 (by decide)) (fun _ => ?_)
    refine lv_aload_n hx hb dL_refuses_598 rfl (lv_at hl 9 rfl) ?_
    refine lv_iload hx hb dL_refuses_599 (lv_at hl 0 rfl) ?_
    refine lv_iload hx hb dL_refuses_601 (lv_at hl 7 rfl) ?_
    refine lv_iconst (v := (-1)) hx hb dL_refuses_603 (by decide) ?_
    refine lv_iconst (v := 0) hx hb dL_refuses_604 (by decide) ?_
    refine lv_iconst (v := 0) hx hb dL_refuses_605 (by decide) ?_
    refine px_ic hw (vx_runSX (As := [.ref o, .int 11, .int po, .int (-1), .int 0, .int 0]) (rest := []) CF (ra_rate l hst g _ _ hW po (-1) 0 0 _) (vx_cwSW 6 hts gL_refuses_L_act rfl rfl rfl (by decide +kernel) ⟨Nat.le_of_ble_eq_true rfl, Nat.le_of_ble_eq_true rfl⟩) (pn_preS hw hs hN) rfl rfl hl.1 rfl (lv_room (Nat.le_of_ble_eq_true rfl)) dL_refuses_606 ⟨by show _ ≤ 1400; omega, by show _ ≤ 91000; omega⟩) (fun E9 ce9 q9 L9 f9 H9 locs9 he9 _ _ _ _ => False.elim he9) (fun r9 La fa Ha loca hp hw9 => ?_)
    clear hw hW
    try clear locb Hb fb Lb
    have hw := hw9
    clear hw9
    obtain ⟨e9, hW⟩ := hp.f1 cE_i hpo
    subst e9
    replace hW : Wd g o m p0 c0 t0 n La fa := hW
    clear hp
    refine lv_iload hx hb dL_refuses_609 (lv_at hl 15 rfl) ?_
    refine lv_icmp_ne (tgt := 650) hx hb dL_refuses_611 (by decide) (fun h9 => absurd h9 (by decide)) (fun _ => ?_)
    refine lv_aload_n hx hb dL_refuses_614 rfl (lv_at hl 9 rfl) ?_
    refine lv_iload hx hb dL_refuses_615 (lv_at hl 0 rfl) ?_
    refine lv_iconst (v := 0) hx hb dL_refuses_617 (by decide) ?_
    refine lv_iload hx hb dL_refuses_618 (lv_at hl 5 rfl) ?_
    refine lv_iconst (v := 0) hx hb dL_refuses_620 (by decide) ?_
    refine lv_iconst (v := 0) hx hb dL_refuses_621 (by decide) ?_
    refine px_ic hw (vx_runSX (As := [.ref o, .int 11, .int 0, .int da, .int 0, .int 0]) (rest := []) CF (ra_rate l hst g _ _ hW 0 da 0 0 _) (vx_cwSW 6 hts gL_refuses_L_act rfl rfl rfl (by decide +kernel) ⟨Nat.le_of_ble_eq_true rfl, Nat.le_of_ble_eq_true rfl⟩) (pn_preS hw hs hN) rfl rfl hl.1 rfl (lv_room (Nat.le_of_ble_eq_true rfl)) dL_refuses_622 ⟨by show _ ≤ 1400; omega, by show _ ≤ 91000; omega⟩) (fun E9 ce9 q9 L9 f9 H9 locs9 he9 _ _ _ _ => False.elim he9) (fun r9 Lb fb Hb locb hp hw9 => ?_)
    clear hw hW
    try clear loca Ha fa La
    have hw := hw9
    clear hw9
    obtain ⟨e9, hW⟩ := hp.f2 cE_a pb0 hda
    subst e9
    replace hW : Wd g o m p0 c0 t0 n Lb fb := hW
    clear hp
    refine lv_iload hx hb dL_refuses_625 (lv_at hl 16 rfl) ?_
    refine lv_icmp_ne (tgt := 650) hx hb dL_refuses_627 (by decide) (fun h9 => absurd h9 (by decide)) (fun _ => ?_)
    refine lv_aload_n hx hb dL_refuses_630 rfl (lv_at hl 9 rfl) ?_
    refine lv_iload hx hb dL_refuses_631 (lv_at hl 0 rfl) ?_
    refine lv_iconst (v := 0) hx hb dL_refuses_633 (by decide) ?_
    refine lv_iconst (v := 0) hx hb dL_refuses_634 (by decide) ?_
    refine lv_iload hx hb dL_refuses_635 (lv_at hl 4 rfl) ?_
    refine lv_iconst (v := 0) hx hb dL_refuses_637 (by decide) ?_
    refine px_ic hw (vx_runSX (As := [.ref o, .int 11, .int 0, .int 0, .int kn, .int 0]) (rest := []) CF (ra_rate l hst g _ _ hW 0 0 kn 0 _) (vx_cwSW 6 hts gL_refuses_L_act rfl rfl rfl (by decide +kernel) ⟨Nat.le_of_ble_eq_true rfl, Nat.le_of_ble_eq_true rfl⟩) (pn_preS hw hs hN) rfl rfl hl.1 rfl (lv_room (Nat.le_of_ble_eq_true rfl)) dL_refuses_638 ⟨by show _ ≤ 1400; omega, by show _ ≤ 91000; omega⟩) (fun E9 ce9 q9 L9 f9 H9 locs9 he9 _ _ _ _ => False.elim he9) (fun r9 La fa Ha loca hp hw9 => ?_)
    clear hw hW
    try clear locb Hb fb Lb
    have hw := hw9
    clear hw9
    obtain ⟨e9, hW⟩ := hp.f3 cE_a pb0 d0 hkn
    subst e9
    replace hW : Wd g o m p0 c0 t0 n La fa := hW
    clear hp
    refine lv_iload hx hb dL_refuses_641 (lv_at hl 16 rfl) ?_
    refine lv_icmp_ne (tgt := 650) hx hb dL_refuses_643 (by decide) (fun h9 => absurd h9 (by decide)) (fun _ => ?_)
    refine lv_iconst (v := 1) hx hb dL_refuses_646 (by decide) ?_
    refine lv_goto (tgt := 651) hx hb dL_refuses_647 (by decide) ?_
    refine lv_istore (lv' := [(17, .int 1), (18, .int 11), (16, .int tw), (15, .int ch), (14, .int kn), (13, .int da), (12, .int fi), (11, .int po), (10, .int no), (0, .ref o), (1, .int (nI p0)), (2, .int (nI c0)), (3, .int (m 0 1)), (4, .int (pmM m (ix 0) (m 0 1) c0 t0)), (5, .int (nI (csM m (ix 0) (m 0 1) c0 t0))), (6, .int (-90000001)), (7, .int (-90000002)), (8, .int 2147483647), (9, .int (nI κ))]) hx hb dL_refuses_651 hl (by decide) rfl (fun ls hl => ?_)
    refine lv_iinc (v := 12) (lv' := [(18, .int 12), (17, .int 1), (16, .int tw), (15, .int ch), (14, .int kn), (13, .int da), (12, .int fi), (11, .int po), (10, .int no), (0, .ref o), (1, .int (nI p0)), (2, .int (nI c0)), (3, .int (m 0 1)), (4, .int (pmM m (ix 0) (m 0 1) c0 t0)), (5, .int (nI (csM m (ix 0) (m 0 1) c0 t0))), (6, .int (-90000001)), (7, .int (-90000002)), (8, .int 2147483647), (9, .int (nI κ))]) hx hb dL_refuses_653 hl (k := 1) rfl (by decide) (by decide) rfl (fun ls hl => ?_)
    refine lv_goto (tgt := 586) hx hb dL_refuses_656 (by decide) ?_
    refine lv_iload hx hb dL_refuses_586 (lv_at hl 0 rfl) ?_
    refine lv_bipush (v := 12) hx hb dL_refuses_588 (by decide) ?_
    refine lv_icmp_ge (tgt := 659) hx hb dL_refuses_590 (by decide) (fun _ => ?_) (fun h9 => absurd h9 (by decide))
    refine lv_bipush (v := 13) hx hb dL_refuses_659 (by decide) ?_
    refine lv_istore (lv' := [(18, .int 13), (17, .int 1), (16, .int tw), (15, .int ch), (14, .int kn), (13, .int da), (12, .int fi), (11, .int po), (10, .int no), (0, .ref o), (1, .int (nI p0)), (2, .int (nI c0)), (3, .int (m 0 1)), (4, .int (pmM m (ix 0) (m 0 1) c0 t0)), (5, .int (nI (csM m (ix 0) (m 0 1) c0 t0))), (6, .int (-90000001)), (7, .int (-90000002)), (8, .int 2147483647), (9, .int (nI κ))]) hx hb dL_refuses_661 hl (by decide) rfl (fun ls hl => ?_)
    refine lv_iload hx hb dL_refuses_663 (lv_at hl 0 rfl) ?_
    refine lv_bipush (v := 15) hx hb dL_refuses_665 (by decide) ?_
    refine lv_icmp_ge (tgt := 748) hx hb dL_refuses_667 (by decide) (fun h9 => absurd h9 (by decide)) (fun _ => ?_)
    refine lv_iload hx hb dL_refuses_670 (lv_at hl 1 rfl) ?_
    refine lv_if_eq (tgt := 739) hx hb dL_refuses_672 (by decide) (fun h9 => absurd h9 (by decide)) (fun _ => ?_)
    refine lv_aload_n hx hb dL_refuses_675 rfl (lv_at hl 9 rfl) ?_
    refine lv_iload hx hb dL_refuses_676 (lv_at hl 0 rfl) ?_
    refine lv_iload hx hb dL_refuses_678 (lv_at hl 7 rfl) ?_
    refine lv_iconst (v := 0) hx hb dL_refuses_680 (by decide) ?_
    refine lv_iload hx hb dL_refuses_681 (lv_at hl 4 rfl) ?_
    refine lv_iconst (v := 0) hx hb dL_refuses_683 (by decide) ?_
    refine px_ic hw (vx_runSX (As := [.ref o, .int 13, .int po, .int 0, .int kn, .int 0]) (rest := []) CF (ra_segmentStart l hst g _ _ hW po 0 kn 0 _) (vx_cwSW 6 hts gL_refuses_L_act rfl rfl rfl (by decide +kernel) ⟨Nat.le_of_ble_eq_true rfl, Nat.le_of_ble_eq_true rfl⟩) (pn_preS hw hs hN) rfl rfl hl.1 rfl (lv_room (Nat.le_of_ble_eq_true rfl)) dL_refuses_684 ⟨by show _ ≤ 1400; omega, by show _ ≤ 91000; omega⟩) (fun E9 ce9 q9 L9 f9 H9 locs9 he9 _ _ _ _ => False.elim he9) (fun r9 Lb fb Hb locb hp hw9 => ?_)
    clear hw hW
    try clear loca Ha fa La
    have hw := hw9
    clear hw9
    obtain ⟨e9, hW⟩ := hp.f1 cE_a hkn
    subst e9
    replace hW : Wd g o m p0 c0 t0 n Lb fb := hW
    clear hp
    refine lv_iload hx hb dL_refuses_687 (lv_at hl 16 rfl) ?_
    refine lv_icmp_ne (tgt := 739) hx hb dL_refuses_689 (by decide) (fun h9 => absurd h9 (by decide)) (fun _ => ?_)
    refine lv_aload_n hx hb dL_refuses_692 rfl (lv_at hl 9 rfl) ?_
    refine lv_iload hx hb dL_refuses_693 (lv_at hl 0 rfl) ?_
    refine lv_iload hx hb dL_refuses_695 (lv_at hl 7 rfl) ?_
    refine lv_iconst (v := 0) hx hb dL_refuses_697 (by decide) ?_
    refine lv_iconst (v := 0) hx hb dL_refuses_698 (by decide) ?_
    refine lv_iconst (v := 0) hx hb dL_refuses_699 (by decide) ?_
    refine px_ic hw (vx_runSX (As := [.ref o, .int 13, .int po, .int 0, .int 0, .int 0]) (rest := []) CF (ra_segmentStart l hst g _ _ hW po 0 0 0 _) (vx_cwSW 6 hts gL_refuses_L_act rfl rfl rfl (by decide +kernel) ⟨Nat.le_of_ble_eq_true rfl, Nat.le_of_ble_eq_true rfl⟩) (pn_preS hw hs hN) rfl rfl hl.1 rfl (lv_room (Nat.le_of_ble_eq_true rfl)) dL_refuses_700 ⟨by show _ ≤ 1400; omega, by show _ ≤ 91000; omega⟩) (fun E9 ce9 q9 L9 f9 H9 locs9 he9 _ _ _ _ => False.elim he9) (fun r9 La fa Ha loca hp hw9 => ?_)
    clear hw hW
    try clear locb Hb fb Lb
    have hw := hw9
    clear hw9
    obtain ⟨e9, hW⟩ := hp.f2 cE_i k0 hpo
    subst e9
    replace hW : Wd g o m p0 c0 t0 n La fa := hW
    clear hp
    refine lv_iload hx hb dL_refuses_703 (lv_at hl 15 rfl) ?_
    refine lv_icmp_ne (tgt := 739) hx hb dL_refuses_705 (by decide) (fun h9 => absurd h9 (by decide)) (fun _ => ?_)
    refine lv_aload_n hx hb dL_refuses_708 rfl (lv_at hl 9 rfl) ?_
    refine lv_iload hx hb dL_refuses_709 (lv_at hl 0 rfl) ?_
    refine lv_iconst (v := 0) hx hb dL_refuses_711 (by decide) ?_
    refine W_cut (P := fun v => ¬ sB m p0 c0 t0 0 v (m 0 1)) (pc' := 725) (rest := [.int 0, .int 13, .ref o]) (fun J => ?_) (fun v4 hv4 => ?_)
    · refine lv_iload hx hb dL_refuses_712 (lv_at hl 18 rfl) ?_
      refine lv_iconst (v := 1) hx hb dL_refuses_714 (by decide) ?_
      refine lv_icmp_ne (tgt := 723) hx hb dL_refuses_715 (by decide) (fun c_715 => ?_) (fun c_715 => ?_)
      · refine lv_iload hx hb dL_refuses_723 (lv_at hl 8 rfl) ?_
        exact J _ (nb_s hp0 hno)
      · refine lv_iload hx hb dL_refuses_718 (lv_at hl 14 rfl) ?_
        refine lv_goto (tgt := 725) hx hb dL_refuses_720 (by decide) ?_
        exact J _ (lim_s hp0)
    refine lv_iload_n hx hb dL_refuses_725 rfl (lv_at hl 12 rfl) ?_
    refine lv_iconst (v := 0) hx hb dL_refuses_726 (by decide) ?_
    refine px_ic hw (vx_runSX (As := [.ref o, .int 13, .int 0, .int v4, .int (m 0 1), .int 0]) (rest := []) CF (ra_segmentStart l hst g _ _ hW 0 v4 (m 0 1) 0 _) (vx_cwSW 6 hts gL_refuses_L_act rfl rfl rfl (by decide +kernel) ⟨Nat.le_of_ble_eq_true rfl, Nat.le_of_ble_eq_true rfl⟩) (pn_preS hw hs hN) rfl rfl hl.1 rfl (lv_room (Nat.le_of_ble_eq_true rfl)) dL_refuses_727 ⟨by show _ ≤ 1400; omega, by show _ ≤ 91000; omega⟩) (fun E9 ce9 q9 L9 f9 H9 locs9 he9 _ _ _ _ => False.elim he9) (fun r9 Lb fb Hb locb hp hw9 => ?_)
    clear hw hW
    try clear loca Ha fa La
    have hw := hw9
    clear hw9
    obtain ⟨e9, hW⟩ := hp.f3 cE_i kt pb0 hv4
    subst e9
    replace hW : Wd g o m p0 c0 t0 n Lb fb := hW
    clear hp
    refine lv_iload hx hb dL_refuses_730 (lv_at hl 15 rfl) ?_
    refine lv_icmp_ne (tgt := 739) hx hb dL_refuses_732 (by decide) (fun h9 => absurd h9 (by decide)) (fun _ => ?_)
    refine lv_iconst (v := 1) hx hb dL_refuses_735 (by decide) ?_
    refine lv_goto (tgt := 740) hx hb dL_refuses_736 (by decide) ?_
    refine lv_istore (lv' := [(17, .int 1), (18, .int 13), (16, .int tw), (15, .int ch), (14, .int kn), (13, .int da), (12, .int fi), (11, .int po), (10, .int no), (0, .ref o), (1, .int (nI p0)), (2, .int (nI c0)), (3, .int (m 0 1)), (4, .int (pmM m (ix 0) (m 0 1) c0 t0)), (5, .int (nI (csM m (ix 0) (m 0 1) c0 t0))), (6, .int (-90000001)), (7, .int (-90000002)), (8, .int 2147483647), (9, .int (nI κ))]) hx hb dL_refuses_740 hl (by decide) rfl (fun ls hl => ?_)
    refine lv_iinc (v := 14) (lv' := [(18, .int 14), (17, .int 1), (16, .int tw), (15, .int ch), (14, .int kn), (13, .int da), (12, .int fi), (11, .int po), (10, .int no), (0, .ref o), (1, .int (nI p0)), (2, .int (nI c0)), (3, .int (m 0 1)), (4, .int (pmM m (ix 0) (m 0 1) c0 t0)), (5, .int (nI (csM m (ix 0) (m 0 1) c0 t0))), (6, .int (-90000001)), (7, .int (-90000002)), (8, .int 2147483647), (9, .int (nI κ))]) hx hb dL_refuses_742 hl (k := 1) rfl (by decide) (by decide) rfl (fun ls hl => ?_)
    refine lv_goto (tgt := 663) hx hb dL_refuses_745 (by decide) ?_
    refine lv_iload hx hb dL_refuses_663 (lv_at hl 0 rfl) ?_
    refine lv_bipush (v := 15) hx hb dL_refuses_665 (by decide) ?_
    refine lv_icmp_ge (tgt := 748) hx hb dL_refuses_667 (by decide) (fun h9 => absurd h9 (by decide)) (fun _ => ?_)
    refine lv_iload hx hb dL_refuses_670 (lv_at hl 1 rfl) ?_
    refine lv_if_eq (tgt := 739) hx hb dL_refuses_672 (by decide) (fun h9 => absurd h9 (by decide)) (fun _ => ?_)
    refine lv_aload_n hx hb dL_refuses_675 rfl (lv_at hl 9 rfl) ?_
    refine lv_iload hx hb dL_refuses_676 (lv_at hl 0 rfl) ?_
    refine lv_iload hx hb dL_refuses_678 (lv_at hl 7 rfl) ?_
    refine lv_iconst (v := 0) hx hb dL_refuses_680 (by decide) ?_
    refine lv_iload hx hb dL_refuses_681 (lv_at hl 4 rfl) ?_
    refine lv_iconst (v := 0) hx hb dL_refuses_683 (by decide) ?_
    refine px_ic hw (vx_runSX (As := [.ref o, .int 14, .int po, .int 0, .int kn, .int 0]) (rest := []) CF (ra_segmentPremium l hst g _ _ hW po 0 kn 0 _) (vx_cwSW 6 hts gL_refuses_L_act rfl rfl rfl (by decide +kernel) ⟨Nat.le_of_ble_eq_true rfl, Nat.le_of_ble_eq_true rfl⟩) (pn_preS hw hs hN) rfl rfl hl.1 rfl (lv_room (Nat.le_of_ble_eq_true rfl)) dL_refuses_684 ⟨by show _ ≤ 1400; omega, by show _ ≤ 91000; omega⟩) (fun E9 ce9 q9 L9 f9 H9 locs9 he9 _ _ _ _ => False.elim he9) (fun r9 La fa Ha loca hp hw9 => ?_)
    clear hw hW
    try clear locb Hb fb Lb
    have hw := hw9
    clear hw9
    obtain ⟨e9, hW⟩ := hp.f1 cE_a hkn
    subst e9
    replace hW : Wd g o m p0 c0 t0 n La fa := hW
    clear hp
    refine lv_iload hx hb dL_refuses_687 (lv_at hl 16 rfl) ?_
    refine lv_icmp_ne (tgt := 739) hx hb dL_refuses_689 (by decide) (fun h9 => absurd h9 (by decide)) (fun _ => ?_)
    refine lv_aload_n hx hb dL_refuses_692 rfl (lv_at hl 9 rfl) ?_
    refine lv_iload hx hb dL_refuses_693 (lv_at hl 0 rfl) ?_
    refine lv_iload hx hb dL_refuses_695 (lv_at hl 7 rfl) ?_
    refine lv_iconst (v := 0) hx hb dL_refuses_697 (by decide) ?_
    refine lv_iconst (v := 0) hx hb dL_refuses_698 (by decide) ?_
    refine lv_iconst (v := 0) hx hb dL_refuses_699 (by decide) ?_
    refine px_ic hw (vx_runSX (As := [.ref o, .int 14, .int po, .int 0, .int 0, .int 0]) (rest := []) CF (ra_segmentPremium l hst g _ _ hW po 0 0 0 _) (vx_cwSW 6 hts gL_refuses_L_act rfl rfl rfl (by decide +kernel) ⟨Nat.le_of_ble_eq_true rfl, Nat.le_of_ble_eq_true rfl⟩) (pn_preS hw hs hN) rfl rfl hl.1 rfl (lv_room (Nat.le_of_ble_eq_true rfl)) dL_refuses_700 ⟨by show _ ≤ 1400; omega, by show _ ≤ 91000; omega⟩) (fun E9 ce9 q9 L9 f9 H9 locs9 he9 _ _ _ _ => False.elim he9) (fun r9 Lb fb Hb locb hp hw9 => ?_)
    clear hw hW
    try clear loca Ha fa La
    have hw := hw9
    clear hw9
    obtain ⟨e9, hW⟩ := hp.f2 cE_i k0 hpo
    subst e9
    replace hW : Wd g o m p0 c0 t0 n Lb fb := hW
    clear hp
    refine lv_iload hx hb dL_refuses_703 (lv_at hl 15 rfl) ?_
    refine lv_icmp_ne (tgt := 739) hx hb dL_refuses_705 (by decide) (fun h9 => absurd h9 (by decide)) (fun _ => ?_)
    refine lv_aload_n hx hb dL_refuses_708 rfl (lv_at hl 9 rfl) ?_
    refine lv_iload hx hb dL_refuses_709 (lv_at hl 0 rfl) ?_
    refine lv_iconst (v := 0) hx hb dL_refuses_711 (by decide) ?_
    refine W_cut (P := fun v => ¬ sB m p0 c0 t0 0 v (m 0 1)) (pc' := 725) (rest := [.int 0, .int 14, .ref o]) (fun J => ?_) (fun v4 hv4 => ?_)
    · refine lv_iload hx hb dL_refuses_712 (lv_at hl 18 rfl) ?_
      refine lv_iconst (v := 1) hx hb dL_refuses_714 (by decide) ?_
      refine lv_icmp_ne (tgt := 723) hx hb dL_refuses_715 (by decide) (fun c_715 => ?_) (fun c_715 => ?_)
      · refine lv_iload hx hb dL_refuses_723 (lv_at hl 8 rfl) ?_
        exact J _ (nb_s hp0 hno)
      · refine lv_iload hx hb dL_refuses_718 (lv_at hl 14 rfl) ?_
        refine lv_goto (tgt := 725) hx hb dL_refuses_720 (by decide) ?_
        exact J _ (lim_s hp0)
    refine lv_iload_n hx hb dL_refuses_725 rfl (lv_at hl 12 rfl) ?_
    refine lv_iconst (v := 0) hx hb dL_refuses_726 (by decide) ?_
    refine px_ic hw (vx_runSX (As := [.ref o, .int 14, .int 0, .int v4, .int (m 0 1), .int 0]) (rest := []) CF (ra_segmentPremium l hst g _ _ hW 0 v4 (m 0 1) 0 _) (vx_cwSW 6 hts gL_refuses_L_act rfl rfl rfl (by decide +kernel) ⟨Nat.le_of_ble_eq_true rfl, Nat.le_of_ble_eq_true rfl⟩) (pn_preS hw hs hN) rfl rfl hl.1 rfl (lv_room (Nat.le_of_ble_eq_true rfl)) dL_refuses_727 ⟨by show _ ≤ 1400; omega, by show _ ≤ 91000; omega⟩) (fun E9 ce9 q9 L9 f9 H9 locs9 he9 _ _ _ _ => False.elim he9) (fun r9 La fa Ha loca hp hw9 => ?_)
    clear hw hW
    try clear locb Hb fb Lb
    have hw := hw9
    clear hw9
    obtain ⟨e9, hW⟩ := hp.f3 cE_i kt pb0 hv4
    subst e9
    replace hW : Wd g o m p0 c0 t0 n La fa := hW
    clear hp
    refine lv_iload hx hb dL_refuses_730 (lv_at hl 15 rfl) ?_
    refine lv_icmp_ne (tgt := 739) hx hb dL_refuses_732 (by decide) (fun h9 => absurd h9 (by decide)) (fun _ => ?_)
    refine lv_iconst (v := 1) hx hb dL_refuses_735 (by decide) ?_
    refine lv_goto (tgt := 740) hx hb dL_refuses_736 (by decide) ?_
    refine lv_istore (lv' := [(17, .int 1), (18, .int 14), (16, .int tw), (15, .int ch), (14, .int kn), (13, .int da), (12, .int fi), (11, .int po), (10, .int no), (0, .ref o), (1, .int (nI p0)), (2, .int (nI c0)), (3, .int (m 0 1)), (4, .int (pmM m (ix 0) (m 0 1) c0 t0)), (5, .int (nI (csM m (ix 0) (m 0 1) c0 t0))), (6, .int (-90000001)), (7, .int (-90000002)), (8, .int 2147483647), (9, .int (nI κ))]) hx hb dL_refuses_740 hl (by decide) rfl (fun ls hl => ?_)
    refine lv_iinc (v := 15) (lv' := [(18, .int 15), (17, .int 1), (16, .int tw), (15, .int ch), (14, .int kn), (13, .int da), (12, .int fi), (11, .int po), (10, .int no), (0, .ref o), (1, .int (nI p0)), (2, .int (nI c0)), (3, .int (m 0 1)), (4, .int (pmM m (ix 0) (m 0 1) c0 t0)), (5, .int (nI (csM m (ix 0) (m 0 1) c0 t0))), (6, .int (-90000001)), (7, .int (-90000002)), (8, .int 2147483647), (9, .int (nI κ))]) hx hb dL_refuses_742 hl (k := 1) rfl (by decide) (by decide) rfl (fun ls hl => ?_)
    refine lv_goto (tgt := 663) hx hb dL_refuses_745 (by decide) ?_
    refine lv_iload hx hb dL_refuses_663 (lv_at hl 0 rfl) ?_
    refine lv_bipush (v := 15) hx hb dL_refuses_665 (by decide) ?_
    refine lv_icmp_ge (tgt := 748) hx hb dL_refuses_667 (by decide) (fun _ => ?_) (fun h9 => absurd h9 (by decide))
    refine lv_bipush (v := 12) hx hb dL_refuses_748 (by decide) ?_
    refine lv_istore (lv' := [(18, .int 12), (17, .int 1), (16, .int tw), (15, .int ch), (14, .int kn), (13, .int da), (12, .int fi), (11, .int po), (10, .int no), (0, .ref o), (1, .int (nI p0)), (2, .int (nI c0)), (3, .int (m 0 1)), (4, .int (pmM m (ix 0) (m 0 1) c0 t0)), (5, .int (nI (csM m (ix 0) (m 0 1) c0 t0))), (6, .int (-90000001)), (7, .int (-90000002)), (8, .int 2147483647), (9, .int (nI κ))]) hx hb dL_refuses_750 hl (by decide) rfl (fun ls hl => ?_)
    refine lv_iload hx hb dL_refuses_752 (lv_at hl 0 rfl) ?_
    refine lv_bipush (v := 17) hx hb dL_refuses_754 (by decide) ?_
    refine lv_icmp_ge (tgt := 823) hx hb dL_refuses_756 (by decide) (fun h9 => absurd h9 (by decide)) (fun _ => ?_)
    refine lv_iload hx hb dL_refuses_759 (lv_at hl 1 rfl) ?_
    refine lv_if_eq (tgt := 814) hx hb dL_refuses_761 (by decide) (fun h9 => absurd h9 (by decide)) (fun _ => ?_)
    refine lv_iload hx hb dL_refuses_764 (lv_at hl 0 rfl) ?_
    refine lv_bipush (v := 13) hx hb dL_refuses_766 (by decide) ?_
    refine lv_icmp_eq (tgt := 810) hx hb dL_refuses_768 (by decide) (fun h9 => absurd h9 (by decide)) (fun _ => ?_)
    refine lv_iload hx hb dL_refuses_771 (lv_at hl 0 rfl) ?_
    refine lv_bipush (v := 14) hx hb dL_refuses_773 (by decide) ?_
    refine lv_icmp_eq (tgt := 810) hx hb dL_refuses_775 (by decide) (fun h9 => absurd h9 (by decide)) (fun _ => ?_)
    refine lv_aload_n hx hb dL_refuses_778 rfl (lv_at hl 9 rfl) ?_
    refine lv_iload hx hb dL_refuses_779 (lv_at hl 0 rfl) ?_
    refine lv_iload hx hb dL_refuses_781 (lv_at hl 7 rfl) ?_
    refine lv_iconst (v := (-1)) hx hb dL_refuses_783 (by decide) ?_
    refine lv_iconst (v := 0) hx hb dL_refuses_784 (by decide) ?_
    refine lv_iconst (v := 0) hx hb dL_refuses_785 (by decide) ?_
    refine px_ic hw (vx_runSX (As := [.ref o, .int 12, .int po, .int (-1), .int 0, .int 0]) (rest := []) CF (ra_segments l hst g _ _ hW po (-1) 0 0 _) (vx_cwSW 6 hts gL_refuses_L_act rfl rfl rfl (by decide +kernel) ⟨Nat.le_of_ble_eq_true rfl, Nat.le_of_ble_eq_true rfl⟩) (pn_preS hw hs hN) rfl rfl hl.1 rfl (lv_room (Nat.le_of_ble_eq_true rfl)) dL_refuses_786 ⟨by show _ ≤ 1400; omega, by show _ ≤ 91000; omega⟩) (fun E9 ce9 q9 L9 f9 H9 locs9 he9 _ _ _ _ => False.elim he9) (fun r9 Lb fb Hb locb hp hw9 => ?_)
    clear hw hW
    try clear loca Ha fa La
    have hw := hw9
    clear hw9
    obtain ⟨e9, hW⟩ := hp.f1 cE_i hpo
    subst e9
    replace hW : Wd g o m p0 c0 t0 n Lb fb := hW
    clear hp
    refine lv_iload hx hb dL_refuses_789 (lv_at hl 15 rfl) ?_
    refine lv_icmp_ne (tgt := 814) hx hb dL_refuses_791 (by decide) (fun h9 => absurd h9 (by decide)) (fun _ => ?_)
    refine lv_aload_n hx hb dL_refuses_794 rfl (lv_at hl 9 rfl) ?_
    refine lv_iload hx hb dL_refuses_795 (lv_at hl 0 rfl) ?_
    refine lv_iconst (v := 0) hx hb dL_refuses_797 (by decide) ?_
    refine lv_iload hx hb dL_refuses_798 (lv_at hl 4 rfl) ?_
    refine lv_iconst (v := 0) hx hb dL_refuses_800 (by decide) ?_
    refine lv_iconst (v := 0) hx hb dL_refuses_801 (by decide) ?_
    refine px_ic hw (vx_runSX (As := [.ref o, .int 12, .int 0, .int kn, .int 0, .int 0]) (rest := []) CF (ra_segments l hst g _ _ hW 0 kn 0 0 _) (vx_cwSW 6 hts gL_refuses_L_act rfl rfl rfl (by decide +kernel) ⟨Nat.le_of_ble_eq_true rfl, Nat.le_of_ble_eq_true rfl⟩) (pn_preS hw hs hN) rfl rfl hl.1 rfl (lv_room (Nat.le_of_ble_eq_true rfl)) dL_refuses_802 ⟨by show _ ≤ 1400; omega, by show _ ≤ 91000; omega⟩) (fun E9 ce9 q9 L9 f9 H9 locs9 he9 _ _ _ _ => False.elim he9) (fun r9 La fa Ha loca hp hw9 => ?_)
    clear hw hW
    try clear locb Hb fb Lb
    have hw := hw9
    clear hw9
    obtain ⟨e9, hW⟩ := hp.f2 cE_a pb0 hkn
    subst e9
    replace hW : Wd g o m p0 c0 t0 n La fa := hW
    clear hp
    refine lv_iload hx hb dL_refuses_805 (lv_at hl 16 rfl) ?_
    refine lv_icmp_ne (tgt := 814) hx hb dL_refuses_807 (by decide) (fun h9 => absurd h9 (by decide)) (fun _ => ?_)
    refine lv_iconst (v := 1) hx hb dL_refuses_810 (by decide) ?_
    refine lv_goto (tgt := 815) hx hb dL_refuses_811 (by decide) ?_
    refine lv_istore (lv' := [(17, .int 1), (18, .int 12), (16, .int tw), (15, .int ch), (14, .int kn), (13, .int da), (12, .int fi), (11, .int po), (10, .int no), (0, .ref o), (1, .int (nI p0)), (2, .int (nI c0)), (3, .int (m 0 1)), (4, .int (pmM m (ix 0) (m 0 1) c0 t0)), (5, .int (nI (csM m (ix 0) (m 0 1) c0 t0))), (6, .int (-90000001)), (7, .int (-90000002)), (8, .int 2147483647), (9, .int (nI κ))]) hx hb dL_refuses_815 hl (by decide) rfl (fun ls hl => ?_)
    refine lv_iinc (v := 13) (lv' := [(18, .int 13), (17, .int 1), (16, .int tw), (15, .int ch), (14, .int kn), (13, .int da), (12, .int fi), (11, .int po), (10, .int no), (0, .ref o), (1, .int (nI p0)), (2, .int (nI c0)), (3, .int (m 0 1)), (4, .int (pmM m (ix 0) (m 0 1) c0 t0)), (5, .int (nI (csM m (ix 0) (m 0 1) c0 t0))), (6, .int (-90000001)), (7, .int (-90000002)), (8, .int 2147483647), (9, .int (nI κ))]) hx hb dL_refuses_817 hl (k := 1) rfl (by decide) (by decide) rfl (fun ls hl => ?_)
    refine lv_goto (tgt := 752) hx hb dL_refuses_820 (by decide) ?_
    refine lv_iload hx hb dL_refuses_752 (lv_at hl 0 rfl) ?_
    refine lv_bipush (v := 17) hx hb dL_refuses_754 (by decide) ?_
    refine lv_icmp_ge (tgt := 823) hx hb dL_refuses_756 (by decide) (fun h9 => absurd h9 (by decide)) (fun _ => ?_)
    refine lv_iload hx hb dL_refuses_759 (lv_at hl 1 rfl) ?_
    refine lv_if_eq (tgt := 814) hx hb dL_refuses_761 (by decide) (fun h9 => absurd h9 (by decide)) (fun _ => ?_)
    refine lv_iload hx hb dL_refuses_764 (lv_at hl 0 rfl) ?_
    refine lv_bipush (v := 13) hx hb dL_refuses_766 (by decide) ?_
    refine lv_icmp_eq (tgt := 810) hx hb dL_refuses_768 (by decide) (fun _ => ?_) (fun h9 => absurd h9 (by decide))
    refine lv_iconst (v := 1) hx hb dL_refuses_810 (by decide) ?_
    refine lv_goto (tgt := 815) hx hb dL_refuses_811 (by decide) ?_
    refine lv_istore (lv' := [(17, .int 1), (18, .int 13), (16, .int tw), (15, .int ch), (14, .int kn), (13, .int da), (12, .int fi), (11, .int po), (10, .int no), (0, .ref o), (1, .int (nI p0)), (2, .int (nI c0)), (3, .int (m 0 1)), (4, .int (pmM m (ix 0) (m 0 1) c0 t0)), (5, .int (nI (csM m (ix 0) (m 0 1) c0 t0))), (6, .int (-90000001)), (7, .int (-90000002)), (8, .int 2147483647), (9, .int (nI κ))]) hx hb dL_refuses_815 hl (by decide) rfl (fun ls hl => ?_)
    refine lv_iinc (v := 14) (lv' := [(18, .int 14), (17, .int 1), (16, .int tw), (15, .int ch), (14, .int kn), (13, .int da), (12, .int fi), (11, .int po), (10, .int no), (0, .ref o), (1, .int (nI p0)), (2, .int (nI c0)), (3, .int (m 0 1)), (4, .int (pmM m (ix 0) (m 0 1) c0 t0)), (5, .int (nI (csM m (ix 0) (m 0 1) c0 t0))), (6, .int (-90000001)), (7, .int (-90000002)), (8, .int 2147483647), (9, .int (nI κ))]) hx hb dL_refuses_817 hl (k := 1) rfl (by decide) (by decide) rfl (fun ls hl => ?_)
    refine lv_goto (tgt := 752) hx hb dL_refuses_820 (by decide) ?_
    refine lv_iload hx hb dL_refuses_752 (lv_at hl 0 rfl) ?_
    refine lv_bipush (v := 17) hx hb dL_refuses_754 (by decide) ?_
    refine lv_icmp_ge (tgt := 823) hx hb dL_refuses_756 (by decide) (fun h9 => absurd h9 (by decide)) (fun _ => ?_)
    refine lv_iload hx hb dL_refuses_759 (lv_at hl 1 rfl) ?_
    refine lv_if_eq (tgt := 814) hx hb dL_refuses_761 (by decide) (fun h9 => absurd h9 (by decide)) (fun _ => ?_)
    refine lv_iload hx hb dL_refuses_764 (lv_at hl 0 rfl) ?_
    refine lv_bipush (v := 13) hx hb dL_refuses_766 (by decide) ?_
    refine lv_icmp_eq (tgt := 810) hx hb dL_refuses_768 (by decide) (fun h9 => absurd h9 (by decide)) (fun _ => ?_)
    refine lv_iload hx hb dL_refuses_771 (lv_at hl 0 rfl) ?_
    refine lv_bipush (v := 14) hx hb dL_refuses_773 (by decide) ?_
    refine lv_icmp_eq (tgt := 810) hx hb dL_refuses_775 (by decide) (fun _ => ?_) (fun h9 => absurd h9 (by decide))
    refine lv_iconst (v := 1) hx hb dL_refuses_810 (by decide) ?_
    refine lv_goto (tgt := 815) hx hb dL_refuses_811 (by decide) ?_
    refine lv_istore (lv' := [(17, .int 1), (18, .int 14), (16, .int tw), (15, .int ch), (14, .int kn), (13, .int da), (12, .int fi), (11, .int po), (10, .int no), (0, .ref o), (1, .int (nI p0)), (2, .int (nI c0)), (3, .int (m 0 1)), (4, .int (pmM m (ix 0) (m 0 1) c0 t0)), (5, .int (nI (csM m (ix 0) (m 0 1) c0 t0))), (6, .int (-90000001)), (7, .int (-90000002)), (8, .int 2147483647), (9, .int (nI κ))]) hx hb dL_refuses_815 hl (by decide) rfl (fun ls hl => ?_)
    refine lv_iinc (v := 15) (lv' := [(18, .int 15), (17, .int 1), (16, .int tw), (15, .int ch), (14, .int kn), (13, .int da), (12, .int fi), (11, .int po), (10, .int no), (0, .ref o), (1, .int (nI p0)), (2, .int (nI c0)), (3, .int (m 0 1)), (4, .int (pmM m (ix 0) (m 0 1) c0 t0)), (5, .int (nI (csM m (ix 0) (m 0 1) c0 t0))), (6, .int (-90000001)), (7, .int (-90000002)), (8, .int 2147483647), (9, .int (nI κ))]) hx hb dL_refuses_817 hl (k := 1) rfl (by decide) (by decide) rfl (fun ls hl => ?_)
    refine lv_goto (tgt := 752) hx hb dL_refuses_820 (by decide) ?_
    refine lv_iload hx hb dL_refuses_752 (lv_at hl 0 rfl) ?_
    refine lv_bipush (v := 17) hx hb dL_refuses_754 (by decide) ?_
    refine lv_icmp_ge (tgt := 823) hx hb dL_refuses_756 (by decide) (fun h9 => absurd h9 (by decide)) (fun _ => ?_)
    refine lv_iload hx hb dL_refuses_759 (lv_at hl 1 rfl) ?_
    refine lv_if_eq (tgt := 814) hx hb dL_refuses_761 (by decide) (fun h9 => absurd h9 (by decide)) (fun _ => ?_)
    refine lv_iload hx hb dL_refuses_764 (lv_at hl 0 rfl) ?_
    refine lv_bipush (v := 13) hx hb dL_refuses_766 (by decide) ?_
    refine lv_icmp_eq (tgt := 810) hx hb dL_refuses_768 (by decide) (fun h9 => absurd h9 (by decide)) (fun _ => ?_)
    refine lv_iload hx hb dL_refuses_771 (lv_at hl 0 rfl) ?_
    refine lv_bipush (v := 14) hx hb dL_refuses_773 (by decide) ?_
    refine lv_icmp_eq (tgt := 810) hx hb dL_refuses_775 (by decide) (fun h9 => absurd h9 (by decide)) (fun _ => ?_)
    refine lv_aload_n hx hb dL_refuses_778 rfl (lv_at hl 9 rfl) ?_
    refine lv_iload hx hb dL_refuses_779 (lv_at hl 0 rfl) ?_
    refine lv_iload hx hb dL_refuses_781 (lv_at hl 7 rfl) ?_
    refine lv_iconst (v := (-1)) hx hb dL_refuses_783 (by decide) ?_
    refine lv_iconst (v := 0) hx hb dL_refuses_784 (by decide) ?_
    refine lv_iconst (v := 0) hx hb dL_refuses_785 (by decide) ?_
    refine px_ic hw (vx_runSX (As := [.ref o, .int 15, .int po, .int (-1), .int 0, .int 0]) (rest := []) CF (ra_premium l hst g _ _ hW po (-1) 0 0 _) (vx_cwSW 6 hts gL_refuses_L_act rfl rfl rfl (by decide +kernel) ⟨Nat.le_of_ble_eq_true rfl, Nat.le_of_ble_eq_true rfl⟩) (pn_preS hw hs hN) rfl rfl hl.1 rfl (lv_room (Nat.le_of_ble_eq_true rfl)) dL_refuses_786 ⟨by show _ ≤ 1400; omega, by show _ ≤ 91000; omega⟩) (fun E9 ce9 q9 L9 f9 H9 locs9 he9 _ _ _ _ => False.elim he9) (fun r9 Lb fb Hb locb hp hw9 => ?_)
    clear hw hW
    try clear loca Ha fa La
    have hw := hw9
    clear hw9
    obtain ⟨e9, hW⟩ := hp.f1 cE_i hpo
    subst e9
    replace hW : Wd g o m p0 c0 t0 n Lb fb := hW
    clear hp
    refine lv_iload hx hb dL_refuses_789 (lv_at hl 15 rfl) ?_
    refine lv_icmp_ne (tgt := 814) hx hb dL_refuses_791 (by decide) (fun h9 => absurd h9 (by decide)) (fun _ => ?_)
    refine lv_aload_n hx hb dL_refuses_794 rfl (lv_at hl 9 rfl) ?_
    refine lv_iload hx hb dL_refuses_795 (lv_at hl 0 rfl) ?_
    refine lv_iconst (v := 0) hx hb dL_refuses_797 (by decide) ?_
    refine lv_iload hx hb dL_refuses_798 (lv_at hl 4 rfl) ?_
    refine lv_iconst (v := 0) hx hb dL_refuses_800 (by decide) ?_
    refine lv_iconst (v := 0) hx hb dL_refuses_801 (by decide) ?_
    refine px_ic hw (vx_runSX (As := [.ref o, .int 15, .int 0, .int kn, .int 0, .int 0]) (rest := []) CF (ra_premium l hst g _ _ hW 0 kn 0 0 _) (vx_cwSW 6 hts gL_refuses_L_act rfl rfl rfl (by decide +kernel) ⟨Nat.le_of_ble_eq_true rfl, Nat.le_of_ble_eq_true rfl⟩) (pn_preS hw hs hN) rfl rfl hl.1 rfl (lv_room (Nat.le_of_ble_eq_true rfl)) dL_refuses_802 ⟨by show _ ≤ 1400; omega, by show _ ≤ 91000; omega⟩) (fun E9 ce9 q9 L9 f9 H9 locs9 he9 _ _ _ _ => False.elim he9) (fun r9 La fa Ha loca hp hw9 => ?_)
    clear hw hW
    try clear locb Hb fb Lb
    have hw := hw9
    clear hw9
    obtain ⟨e9, hW⟩ := hp.f2 cE_a pb0 hkn
    subst e9
    replace hW : Wd g o m p0 c0 t0 n La fa := hW
    clear hp
    refine lv_iload hx hb dL_refuses_805 (lv_at hl 16 rfl) ?_
    refine lv_icmp_ne (tgt := 814) hx hb dL_refuses_807 (by decide) (fun h9 => absurd h9 (by decide)) (fun _ => ?_)
    refine lv_iconst (v := 1) hx hb dL_refuses_810 (by decide) ?_
    refine lv_goto (tgt := 815) hx hb dL_refuses_811 (by decide) ?_
    refine lv_istore (lv' := [(17, .int 1), (18, .int 15), (16, .int tw), (15, .int ch), (14, .int kn), (13, .int da), (12, .int fi), (11, .int po), (10, .int no), (0, .ref o), (1, .int (nI p0)), (2, .int (nI c0)), (3, .int (m 0 1)), (4, .int (pmM m (ix 0) (m 0 1) c0 t0)), (5, .int (nI (csM m (ix 0) (m 0 1) c0 t0))), (6, .int (-90000001)), (7, .int (-90000002)), (8, .int 2147483647), (9, .int (nI κ))]) hx hb dL_refuses_815 hl (by decide) rfl (fun ls hl => ?_)
    refine lv_iinc (v := 16) (lv' := [(18, .int 16), (17, .int 1), (16, .int tw), (15, .int ch), (14, .int kn), (13, .int da), (12, .int fi), (11, .int po), (10, .int no), (0, .ref o), (1, .int (nI p0)), (2, .int (nI c0)), (3, .int (m 0 1)), (4, .int (pmM m (ix 0) (m 0 1) c0 t0)), (5, .int (nI (csM m (ix 0) (m 0 1) c0 t0))), (6, .int (-90000001)), (7, .int (-90000002)), (8, .int 2147483647), (9, .int (nI κ))]) hx hb dL_refuses_817 hl (k := 1) rfl (by decide) (by decide) rfl (fun ls hl => ?_)
    refine lv_goto (tgt := 752) hx hb dL_refuses_820 (by decide) ?_
    refine lv_iload hx hb dL_refuses_752 (lv_at hl 0 rfl) ?_
    refine lv_bipush (v := 17) hx hb dL_refuses_754 (by decide) ?_
    refine lv_icmp_ge (tgt := 823) hx hb dL_refuses_756 (by decide) (fun h9 => absurd h9 (by decide)) (fun _ => ?_)
    refine lv_iload hx hb dL_refuses_759 (lv_at hl 1 rfl) ?_
    refine lv_if_eq (tgt := 814) hx hb dL_refuses_761 (by decide) (fun h9 => absurd h9 (by decide)) (fun _ => ?_)
    refine lv_iload hx hb dL_refuses_764 (lv_at hl 0 rfl) ?_
    refine lv_bipush (v := 13) hx hb dL_refuses_766 (by decide) ?_
    refine lv_icmp_eq (tgt := 810) hx hb dL_refuses_768 (by decide) (fun h9 => absurd h9 (by decide)) (fun _ => ?_)
    refine lv_iload hx hb dL_refuses_771 (lv_at hl 0 rfl) ?_
    refine lv_bipush (v := 14) hx hb dL_refuses_773 (by decide) ?_
    refine lv_icmp_eq (tgt := 810) hx hb dL_refuses_775 (by decide) (fun h9 => absurd h9 (by decide)) (fun _ => ?_)
    refine lv_aload_n hx hb dL_refuses_778 rfl (lv_at hl 9 rfl) ?_
    refine lv_iload hx hb dL_refuses_779 (lv_at hl 0 rfl) ?_
    refine lv_iload hx hb dL_refuses_781 (lv_at hl 7 rfl) ?_
    refine lv_iconst (v := (-1)) hx hb dL_refuses_783 (by decide) ?_
    refine lv_iconst (v := 0) hx hb dL_refuses_784 (by decide) ?_
    refine lv_iconst (v := 0) hx hb dL_refuses_785 (by decide) ?_
    refine px_ic hw (vx_runSX (As := [.ref o, .int 16, .int po, .int (-1), .int 0, .int 0]) (rest := []) CF (ra_premiumByDays l hst g _ _ hW po (-1) 0 0 _) (vx_cwSW 6 hts gL_refuses_L_act rfl rfl rfl (by decide +kernel) ⟨Nat.le_of_ble_eq_true rfl, Nat.le_of_ble_eq_true rfl⟩) (pn_preS hw hs hN) rfl rfl hl.1 rfl (lv_room (Nat.le_of_ble_eq_true rfl)) dL_refuses_786 ⟨by show _ ≤ 1400; omega, by show _ ≤ 91000; omega⟩) (fun E9 ce9 q9 L9 f9 H9 locs9 he9 _ _ _ _ => False.elim he9) (fun r9 Lb fb Hb locb hp hw9 => ?_)
    clear hw hW
    try clear loca Ha fa La
    have hw := hw9
    clear hw9
    obtain ⟨e9, hW⟩ := hp.f1 cE_i hpo
    subst e9
    replace hW : Wd g o m p0 c0 t0 n Lb fb := hW
    clear hp
    refine lv_iload hx hb dL_refuses_789 (lv_at hl 15 rfl) ?_
    refine lv_icmp_ne (tgt := 814) hx hb dL_refuses_791 (by decide) (fun h9 => absurd h9 (by decide)) (fun _ => ?_)
    refine lv_aload_n hx hb dL_refuses_794 rfl (lv_at hl 9 rfl) ?_
    refine lv_iload hx hb dL_refuses_795 (lv_at hl 0 rfl) ?_
    refine lv_iconst (v := 0) hx hb dL_refuses_797 (by decide) ?_
    refine lv_iload hx hb dL_refuses_798 (lv_at hl 4 rfl) ?_
    refine lv_iconst (v := 0) hx hb dL_refuses_800 (by decide) ?_
    refine lv_iconst (v := 0) hx hb dL_refuses_801 (by decide) ?_
    refine px_ic hw (vx_runSX (As := [.ref o, .int 16, .int 0, .int kn, .int 0, .int 0]) (rest := []) CF (ra_premiumByDays l hst g _ _ hW 0 kn 0 0 _) (vx_cwSW 6 hts gL_refuses_L_act rfl rfl rfl (by decide +kernel) ⟨Nat.le_of_ble_eq_true rfl, Nat.le_of_ble_eq_true rfl⟩) (pn_preS hw hs hN) rfl rfl hl.1 rfl (lv_room (Nat.le_of_ble_eq_true rfl)) dL_refuses_802 ⟨by show _ ≤ 1400; omega, by show _ ≤ 91000; omega⟩) (fun E9 ce9 q9 L9 f9 H9 locs9 he9 _ _ _ _ => False.elim he9) (fun r9 La fa Ha loca hp hw9 => ?_)
    clear hw hW
    try clear locb Hb fb Lb
    have hw := hw9
    clear hw9
    obtain ⟨e9, hW⟩ := hp.f2 cE_a pb0 hkn
    subst e9
    replace hW : Wd g o m p0 c0 t0 n La fa := hW
    clear hp
    refine lv_iload hx hb dL_refuses_805 (lv_at hl 16 rfl) ?_
    refine lv_icmp_ne (tgt := 814) hx hb dL_refuses_807 (by decide) (fun h9 => absurd h9 (by decide)) (fun _ => ?_)
    refine lv_iconst (v := 1) hx hb dL_refuses_810 (by decide) ?_
    refine lv_goto (tgt := 815) hx hb dL_refuses_811 (by decide) ?_
    refine lv_istore (lv' := [(17, .int 1), (18, .int 16), (16, .int tw), (15, .int ch), (14, .int kn), (13, .int da), (12, .int fi), (11, .int po), (10, .int no), (0, .ref o), (1, .int (nI p0)), (2, .int (nI c0)), (3, .int (m 0 1)), (4, .int (pmM m (ix 0) (m 0 1) c0 t0)), (5, .int (nI (csM m (ix 0) (m 0 1) c0 t0))), (6, .int (-90000001)), (7, .int (-90000002)), (8, .int 2147483647), (9, .int (nI κ))]) hx hb dL_refuses_815 hl (by decide) rfl (fun ls hl => ?_)
    refine lv_iinc (v := 17) (lv' := [(18, .int 17), (17, .int 1), (16, .int tw), (15, .int ch), (14, .int kn), (13, .int da), (12, .int fi), (11, .int po), (10, .int no), (0, .ref o), (1, .int (nI p0)), (2, .int (nI c0)), (3, .int (m 0 1)), (4, .int (pmM m (ix 0) (m 0 1) c0 t0)), (5, .int (nI (csM m (ix 0) (m 0 1) c0 t0))), (6, .int (-90000001)), (7, .int (-90000002)), (8, .int 2147483647), (9, .int (nI κ))]) hx hb dL_refuses_817 hl (k := 1) rfl (by decide) (by decide) rfl (fun ls hl => ?_)
    refine lv_goto (tgt := 752) hx hb dL_refuses_820 (by decide) ?_
    refine lv_iload hx hb dL_refuses_752 (lv_at hl 0 rfl) ?_
    refine lv_bipush (v := 17) hx hb dL_refuses_754 (by decide) ?_
    refine lv_icmp_ge (tgt := 823) hx hb dL_refuses_756 (by decide) (fun _ => ?_) (fun h9 => absurd h9 (by decide))
    refine lv_iload hx hb dL_refuses_823 (lv_at hl 1 rfl) ?_
    refine lv_if_eq (tgt := 864) hx hb dL_refuses_825 (by decide) (fun h9 => absurd h9 (by decide)) (fun _ => ?_)
    refine lv_aload_n hx hb dL_refuses_828 rfl (lv_at hl 9 rfl) ?_
    refine lv_bipush (v := 17) hx hb dL_refuses_829 (by decide) ?_
    refine lv_iload hx hb dL_refuses_831 (lv_at hl 7 rfl) ?_
    refine lv_iconst (v := 0) hx hb dL_refuses_833 (by decide) ?_
    refine lv_iconst (v := 0) hx hb dL_refuses_834 (by decide) ?_
    refine lv_iconst (v := 0) hx hb dL_refuses_835 (by decide) ?_
    refine px_ic hw (vx_runSX (As := [.ref o, .int 17, .int po, .int 0, .int 0, .int 0]) (rest := []) CF (ra_bill l hst g _ _ hW po 0 0 0 _) (vx_cwSW 6 hts gL_refuses_L_act rfl rfl rfl (by decide +kernel) ⟨Nat.le_of_ble_eq_true rfl, Nat.le_of_ble_eq_true rfl⟩) (pn_preS hw hs hN) rfl rfl hl.1 rfl (lv_room (Nat.le_of_ble_eq_true rfl)) dL_refuses_836 ⟨by show _ ≤ 1400; omega, by show _ ≤ 91000; omega⟩) (fun E9 ce9 q9 L9 f9 H9 locs9 he9 _ _ _ _ => False.elim he9) (fun r9 Lb fb Hb locb hp hw9 => ?_)
    clear hw hW
    try clear loca Ha fa La
    have hw := hw9
    clear hw9
    obtain ⟨e9, hW⟩ := hp.f1 cE_i hpo
    subst e9
    replace hW : Wd g o m p0 c0 t0 n Lb fb := hW
    clear hp
    refine lv_iload hx hb dL_refuses_839 (lv_at hl 15 rfl) ?_
    refine lv_icmp_ne (tgt := 864) hx hb dL_refuses_841 (by decide) (fun h9 => absurd h9 (by decide)) (fun _ => ?_)
    refine lv_aload_n hx hb dL_refuses_844 rfl (lv_at hl 9 rfl) ?_
    refine lv_bipush (v := 18) hx hb dL_refuses_845 (by decide) ?_
    refine lv_iload hx hb dL_refuses_847 (lv_at hl 7 rfl) ?_
    refine lv_iconst (v := 0) hx hb dL_refuses_849 (by decide) ?_
    refine lv_iconst (v := 0) hx hb dL_refuses_850 (by decide) ?_
    refine lv_iconst (v := 0) hx hb dL_refuses_851 (by decide) ?_
    refine px_ic hw (vx_runSX (As := [.ref o, .int 18, .int po, .int 0, .int 0, .int 0]) (rest := []) CF (ra_billed l hst g _ _ hW po 0 0 0 _) (vx_cwSW 6 hts gL_refuses_L_act rfl rfl rfl (by decide +kernel) ⟨Nat.le_of_ble_eq_true rfl, Nat.le_of_ble_eq_true rfl⟩) (pn_preS hw hs hN) rfl rfl hl.1 rfl (lv_room (Nat.le_of_ble_eq_true rfl)) dL_refuses_852 ⟨by show _ ≤ 1400; omega, by show _ ≤ 91000; omega⟩) (fun E9 ce9 q9 L9 f9 H9 locs9 he9 _ _ _ _ => False.elim he9) (fun r9 La fa Ha loca hp hw9 => ?_)
    clear hw hW
    try clear locb Hb fb Lb
    have hw := hw9
    clear hw9
    obtain ⟨e9, hW⟩ := hp.f1 cE_i hpo
    subst e9
    replace hW : Wd g o m p0 c0 t0 n La fa := hW
    clear hp
    refine lv_iload hx hb dL_refuses_855 (lv_at hl 15 rfl) ?_
    refine lv_icmp_ne (tgt := 864) hx hb dL_refuses_857 (by decide) (fun h9 => absurd h9 (by decide)) (fun _ => ?_)
    refine lv_iconst (v := 1) hx hb dL_refuses_860 (by decide) ?_
    refine lv_goto (tgt := 865) hx hb dL_refuses_861 (by decide) ?_
    refine lv_istore (lv' := [(17, .int 1), (18, .int 17), (16, .int tw), (15, .int ch), (14, .int kn), (13, .int da), (12, .int fi), (11, .int po), (10, .int no), (0, .ref o), (1, .int (nI p0)), (2, .int (nI c0)), (3, .int (m 0 1)), (4, .int (pmM m (ix 0) (m 0 1) c0 t0)), (5, .int (nI (csM m (ix 0) (m 0 1) c0 t0))), (6, .int (-90000001)), (7, .int (-90000002)), (8, .int 2147483647), (9, .int (nI κ))]) hx hb dL_refuses_865 hl (by decide) rfl (fun ls hl => ?_)
    refine lv_iload hx hb dL_refuses_867 (lv_at hl 0 rfl) ?_
    refine lv_if_ne (tgt := 874) hx hb dL_refuses_869 (by decide) (fun _ => ?_) (fun h9 => absurd h9 (by decide))
    refine lv_iinc (v := (nI (κ + 1))) (lv' := [(9, .int (nI (κ + 1))), (17, .int 1), (18, .int 17), (16, .int tw), (15, .int ch), (14, .int kn), (13, .int da), (12, .int fi), (11, .int po), (10, .int no), (0, .ref o), (1, .int (nI p0)), (2, .int (nI c0)), (3, .int (m 0 1)), (4, .int (pmM m (ix 0) (m 0 1) c0 t0)), (5, .int (nI (csM m (ix 0) (m 0 1) c0 t0))), (6, .int (-90000001)), (7, .int (-90000002)), (8, .int 2147483647)]) hx hb dL_refuses_874 hl (k := 18) rfl (nI_1 κ) (by decide) rfl (fun ls hl => ?_)
    refine lv_goto (tgt := 41) hx hb dL_refuses_877 (by decide) ?_
    exact ih (κ + 1) _ _ _ _ _ (by omega) ⟨⟨by omega, by omega, by omega⟩, _, _, hW, hw, lv_sub hl [10, 11, 12, 13, 14, 15, 16, 17, 18, 0] rfl⟩
end REFUSES
