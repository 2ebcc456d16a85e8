/-! the claim out of one walk of the law's body (the skeleton's head) -/
def R_law : String := "BackdaterLaw"
def lw_P (b : Addr) (xs : List Int32) (args : Array Value) (s : State) : Prop := args = #[.ref b] ∧ s.IntsAt b xs ∧ xs.length ≤ 260 ∧ (Jvm.Cond.and given_1 narrow_1).before args s = true
def lw_Q (_ : Array Value) (s : State) (o : Outcome) (t : State) : Prop := o = .returned (some (.int 1)) ∧ Framed s o t [] 600104 7301314
def lw_Z (below : List Frame) (a : Array Value) (s : State) : State → Prop := fun t => ∃ o, t.status = .running ∧ Ended t below o ∧ lw_Q a s o t
/-- the law's own end, with 1 on the stack, nothing written that was there before, its room as the claim has it -/
theorem lw_ret {p : Program} {l : Launch} {e : Env} {s : State} {m : MethodId} {below : List Frame} {meth : Method} {c : Code} {b : Nat} (hx : p.tables.exec = Jvm.exec) (hb : c.code = code) (hr : meth.sig.returnType = ret) (hlocks : meth.locks = false) {pc : Nat} {H : Heap} {ls : Array Slot} (hdg : decode code pc = .ok (.ireturn, 1)) : W p l e room_1 s m #[Value.ref b] below meth c H [] 600104 7301314 (lw_Z below #[Value.ref b] s) (F0 m pc ls [.int 1]) := by
  intro T hT X
  obtain ⟨fs, hret, hrun, hended, hW, hframe⟩ := X.leave (v := some (.int 1)) (hlocks := hlocks) (fun h => by rw [hr] at h; cases h)
  have hmeth' : T.vm.method? m = some meth := X.method'
  refine ⟨T.setFrames fs, ?_, .returned (some (.int 1)), hrun, hended, rfl, ⟨_, rfl⟩, hW, hframe⟩
  jvm_step X.here [X.here.top, hx, hb, hdg, hmeth', hr, ret, narrow_b1]
  (try refine ⟨rfl, ?_⟩); (try refine ⟨rfl, ?_⟩)
  first | (intro acts; rw [hret _ acts rfl rfl rfl]) | rw [hret _ _ rfl rfl rfl]
  exact Steps.refl _
/-- what holds at the law's entry: the machine, the code, the tables' words (any of lw_tbl by 'hts w (by decide +kernel)'), the script of L ints xs at the cell b, what the Statement gives of the start (any of its parts by flat_of_before) -/
def lw_At (p : Program) (s : State) (m : MethodId) (meth : Method) (c : Code) (b L : Nat) (xs : Nat → Int32) : Prop :=
  p.tables.exec = Jvm.exec ∧ c.code = code ∧ meth.sig.returnType = ret ∧ c.maxLocals = 5 ∧ s.vm.findClass R_law = some m.cls ∧ (∀ w ∈ lw_tbl, w.before #[Value.ref b] s = true) ∧ va_X b L xs s s.heap ∧ b < s.heap.size ∧ meth.locks = false ∧ (Jvm.Cond.and given_1 narrow_1).before #[Value.ref b] s = true

/-! the law's loop -/
section LAWL
theorem us8 (x : Int32) : (x.toUInt32 >>> ((8 : Int32).toUInt32 &&& Int32.toUInt32 31)).toInt32 = nI (x.toBitVec.toNat / 256) := by
  have h := pk_ushr x 8 8 (by decide)
  have h2 : x.toBitVec.toNat < 2 ^ 32 := x.toBitVec.isLt
  exact Int32.toBitVec_inj.mp (BitVec.eq_of_toNat_eq (h.trans (pk_tn (n := x.toBitVec.toNat / 256) (by omega)).symm))
theorem us8_lt (x : Int32) : x.toBitVec.toNat / 256 < 2 ^ 24 := by
  have h2 : x.toBitVec.toNat < 2 ^ 32 := x.toBitVec.isLt
  omega
theorem mTell_01 (m : MS) (n : Nat) (x kd y z w : Int32) : mTell m n x kd y z w 0 1 = m 0 1 := by
  show mS (mS (mS (mS (mS (mS (mS (mS (mS m 0 4 0) 6 n x) 7 n kd) 8 n y) 9 n z) 10 n w) 11 n (m 0 1)) 12 n (-1)) 0 3 (m 0 3 + 1) 0 1 = _
  rw [mS_s, upd_n (by decide), mS_n (by decide), mS_n (by decide), mS_n (by decide), mS_n (by decide), mS_n (by decide), mS_n (by decide), mS_n (by decide), mS_s, upd_n (by decide)]
theorem mPs_01 (m : MS) (x : Int32) : mPs m x 0 1 = m 0 1 + x := by
  show mS (mS m 0 4 0) 0 1 (m 0 1 + x) 0 1 = _
  rw [mS_s, upd_s]
theorem add_toInt {t : Int32} {y : Nat} (h0 : 0 ≤ t.toInt) (h1 : t.toInt ≤ 100000) (hy : y ≤ 1000) : (t + nI y).toInt = t.toInt + y := by
  rcases pk_ix t (n := 200000) (by omega) with q | q | ⟨i, hi, rfl⟩
  · rw [i32_lt, i32_0] at q
    omega
  · rw [i32_le, nI_toInt (by omega)] at q
    omega
  · rw [nI_add, nI_toInt (by omega), nI_toInt (by omega)]
    omega
theorem l_refuses1 (l : Launch) (hst : l.stackTraces = false) (g : GE) (L : List Nat) (f : Nat → va_E) {o : Nat} {m : MS} {p0 c0 t0 n : Nat} (hW : Wd g o m p0 c0 t0 n L f) {x : Int32} (hx : x = nI p0) (hp0 : 0 < p0) (hn : n ≤ 512) : Ni l yL_refuses wsL_refuses (rmH 11 1400 91000) g L f [.ref o, .int x] (fun r u => r = 1 ∧ Wd g o m p0 c0 t0 n u.1 u.2) 1400 91000 := by
  subst hx
  exact l_refuses l hst g L f hW hp0 hn
theorem rt_ex {m : MS} {i n t0 d : Nat} {kn : Int32} (h : ∀ c, c < n → m 7 c = 0 → ∃ a : Nat, a ≤ 20 ∧ m 10 c = nI a) {b : Nat} (hb : m 1 i = nI b) (hb2 : b ≤ 1000) (hw : ∀ f, f < 3 → ∃ w : Nat, w ≤ 100 ∧ wgM m t0 (nI f) (nI d) = nI w) : ∃ N : Nat, N ≤ 7000 ∧ rtM m i kn n t0 d = nI N := by
  show ∃ N : Nat, N ≤ 7000 ∧ (if (goM m i kn n (d + 1)).2 = 0 then 0 else itM m i t0 d (goM m i kn n (d + 1)).1 3 : Int32) = nI N
  by_cases h0 : (goM m i kn n (d + 1)).2 = 0
  · rw [if_pos h0]
    exact ⟨0, by decide, rfl⟩
  · rw [if_neg h0]
    obtain ⟨N, h1, h2⟩ := itM_ok hb hb2 (goM_ok (i := i) (kn := kn) h (d + 1)) hw 3 (Nat.le_refl 3)
    exact ⟨N, by omega, h2⟩
theorem Wd.rt {g : GE} {o : Nat} {m : MS} {p0 c0 t0 n : Nat} {L : List Nat} {f : Nat → va_E} (hW : Wd g o m p0 c0 t0 n L f) {i d : Nat} {kn : Int32} (hi : i < p0) : ∃ N : Nat, N ≤ 7000 ∧ rtF m i kn c0 t0 d = nI N := by
  obtain ⟨a, k, rfl, hk, hiv, hle, h, rfl, rfl⟩ := hW
  obtain ⟨-, hb1, hb2⟩ := h.2.2.1.1 i hi
  obtain ⟨b, hb, e⟩ := nI_of2 (x := m 1 i) (M := 1000) (n := 1000) rfl (by rw [i32_lt, i32_0]; omega) (by rw [i32_le, show (1000 : Int32).toInt = 1000 from rfl]; omega)
  refine rt_ex (b := b) (fun c hc h7 => ?_) e hb (fun f hf => ?_)
  · have hC := h.2.2.2.1 c hc
    have e7 : k.2.1 2 c = 0 := by
      rw [hC.1.2] at h7
      exact (nI_eq (by have := hC.2.2.2.1.2; omega) (by decide)).mp (h7.trans nI_0.symm)
    obtain ⟨h8, h9⟩ := hC.2.2.2.2.2.2.2.2 e7
    rw [hC.2.1.2]
    exact nI_of2 (M := 20) (n := 20) rfl (by rw [i32_lt, i32_0]; omega) (by rw [i32_le, show (20 : Int32).toInt = 20 from rfl]; omega)
  · rcases hq : bst m (nI f) (nI d) t0 with _ | b9
    · exact ⟨1, by omega, wgM_n hq⟩
    · obtain ⟨⟨h8, h9⟩, -⟩ := h.2.2.2.2.2.2 b9 (bst_lt m _ _ t0 b9 hq)
      obtain ⟨w, hw, ew⟩ := nI_of2 (x := m 4 b9) (M := 100) (n := 100) rfl (by rw [i32_lt, i32_0]; omega) (by rw [i32_le, show (100 : Int32).toInt = 100 from rfl]; omega)
      exact ⟨w, hw, (wgM_s hq).trans ew⟩
theorem SM_ex {T : Nat → Int32} (h : ∀ d, ∃ N : Nat, N ≤ 7000 ∧ T d = nI N) : ∀ n, ∃ M : Nat, M ≤ 7000 * n ∧ SM T n = nI M
  | 0 => ⟨0, Nat.le_refl _, rfl⟩
  | n + 1 => by
    obtain ⟨M, h1, h2⟩ := SM_ex h n
    obtain ⟨N, h3, h4⟩ := h n
    exact ⟨M + N, by omega, by rw [SM, h2, h4, nI_add]⟩
theorem Wd.pm {g : GE} {o : Nat} {m : MS} {p0 c0 t0 n : Nat} {L : List Nat} {f : Nat → va_E} (hW : Wd g o m p0 c0 t0 n L f) {i : Nat} {kn : Int32} (hi : i < p0) : 0 ≤ (pmM m i kn c0 t0).toInt := by
  obtain ⟨M, h1, h2⟩ := SM_ex (T := rtF m i kn c0 t0) (fun d => hW.rt hi) 365
  unfold pmM
  rw [h2, show (365 : Int32) = nI 365 from rfl, pk_div (by omega) (by decide) (by decide), nI_toInt (by omega)]
  omega
section LAWR
variable {p : Program} {l : Launch} {e : Env} {R : Room} {s : State} {m : MethodId} {args : Array Value} {below : List Frame} {meth : Method} {c : Code} {H : Heap} {locs : List Loc} {cells slots : Nat} {Q : State → Prop}
variable {cc : ByteArray} {pc : Nat} {ls : Array Slot} {rest : List Value} {g : GE} {A : Nat → Prop} {L : List Nat} {f : Nat → va_E} {a : Nat}
/-- a number of the script -/
theorem lw_sld (hx : p.tables.exec = Jvm.exec) (hb : c.code = cc) {b N : Nat} {xs : Nat → Int32} (hX : va_X b N xs s s.heap) (hbl : b < s.heap.size) (hbA : ¬ A b) (hw : PW g A s H locs L f) (hN : N ≤ 2560) {i : Int32} {q : Nat} (hi : i = nI q) (hq : q < N) (hdg : decode cc pc = .ok (.iaload, 1))
    (kk : W p l e R s m args below meth c H locs cells slots Q (F0 m (pc + 1) ls (.int (xs q) :: rest))) : W p l e R s m args below meth c H locs cells slots Q (F0 m pc ls (.int i :: .ref b :: rest)) := by
  subst hi
  refine va_sld hx hb hX hbl hbA hw.2.2.2.1 (vp_in_nI hq (by omega)) hdg ?_
  rw [nI_clamp (by omega)]
  exact kk
end LAWR
/-- the cells that are the law's own -/
def lwA (s : State) : Nat → Prop := fun q => s.heap.size ≤ q
/-- at the loop's head: κ calls are done -/
def LawI (g : GE) (s : State) (b o κ : Nat) (H : Heap) (locs : List Loc) (ls : Array Slot) : Prop := ∃ (mm : MS) (L1 : List Nat) (f1 : Nat → va_E), (κ : Int) ≤ (mm 0 1).toInt ∧ Wd g o mm 1 κ 0 (1 + 2 * κ) L1 f1 ∧ PW g (lwA s) s H locs L1 f1 ∧ lv_has ls 5 [(0, .ref b), (1, .ref o), (2, .int (nI κ))]
set_option maxHeartbeats 4000000 in
set_option maxRecDepth 100000 in
theorem law_tail {p : Program} {e : Env} {s : State} {m : MethodId} {below : List Frame} {meth : Method} {c : Code} {l : Launch} {b L : Nat} {xs : Nat → Int32} {Q : State → Prop} {g : GE} {o κ X : Nat} {mm : MS} {H : Heap} {locs : List Loc} {ls : Array Slot} {L1 : List Nat} {f1 : Nat → va_E} (hst : l.stackTraces = false) (hL : L ≤ 260) (C0 : lw_At p s m meth c b L xs) (hs : Sx g (lwA s) s s.heap) (hN : NcU s) (hκ : κ < 16) (hX9 : X < 2 ^ 24) (hge : (κ : Int) ≤ (mm 0 1).toInt) (hW : Wd g o mm 1 (κ + 1) 0 (2 + 2 * κ) L1 f1) (hw : PW g (lwA s) s H locs L1 f1) (hl : lv_has ls 5 [(3, .int (nI X)), (0, .ref b), (1, .ref o), (2, .int (nI κ))]) (ih : ∀ (H1 : Heap) (locs1 : List Loc) (ls1 : Array Slot), LawI g s b o (κ + 1) H1 locs1 ls1 → W p l e room_1 s m #[Value.ref b] below meth c H1 locs1 (8058 + 1413 * (κ + 1)) (515084 + 91554 * (κ + 1)) Q (F0 m 35 ls1 [])) : W p l e room_1 s m #[Value.ref b] below meth c H locs (8058 + 1413 * κ + 8) (515084 + 91554 * κ + 524) Q (F0 m 150 ls [.int (nI κ)]) := by
  obtain ⟨hx, hb, hr, hml, hown0, hts0, hX, hbl, hlocks, hgv⟩ := id C0
  have hbA : ¬ lwA s b := Nat.not_le.mpr hbl
  have hts : ∀ w ∈ wsL_law, w.before #[Value.ref b] s = true := fun w h => hts0 w (wsL_law_in w h)
  have hown : s.vm.findClass RL = some m.cls := hown0
  have CF := (⟨hx, hb, hml, hown, hts⟩ : CallFix p m c cL_law 5 s #[Value.ref b] wsL_law RL)
  obtain ⟨-, -, ht0, htn⟩ := hW.inv
  have pb0 : pB 1 0 := pb_0 (by decide)
  refine lv_istore (lv' := [(4, .int (nI κ)), (3, .int (nI X)), (0, .ref b), (1, .ref o), (2, .int (nI κ))]) hx hb dL_law_150 hl (by decide) rfl (fun ls hl => ?_)
  refine lv_iload hx hb dL_law_152 (lv_at hl 0 rfl) ?_
  refine lv_iload_n hx hb dL_law_154 rfl (lv_at hl 4 rfl) ?_
  refine lv_icmp_ne (tgt := 207) hx hb dL_law_155 (by decide) (fun h9 => absurd h9 (fun q9 => q9 rfl)) (fun _ => ?_)
  refine lv_aload_n hx hb dL_law_158 rfl (lv_at hl 3 rfl) ?_
  refine lv_iconst (v := 1) hx hb dL_law_159 (by decide) ?_
  refine lv_iload_n hx hb dL_law_160 rfl (lv_at hl 1 rfl) ?_
  refine lv_bipush (v := 100) hx hb dL_law_161 (by decide) ?_
  refine lv_irem hx hb dL_law_163 (by decide) ?_
  refine lv_topi (fun z9 hz9 => ?_)
  obtain rfl : z9 = nI (X % 100) := hz9.trans (pk_rem (a := X) (d := 100) (by omega) (by decide) (by decide))
  refine lv_iadd hx hb dL_law_164 ?_
  refine lv_topi (fun z9 hz9 => ?_)
  obtain rfl : z9 = nI (1 + X % 100) := hz9.trans (nI_add 1 (X % 100))
  obtain ⟨fs9, hq9, hf9⟩ := hW.rcv
  refine px_ic hw (vx_runV (As := [.int (nI (1 + X % 100))]) (rest := []) CF ((q_pass l hst g _ _ hW (by omega) (nI (1 + X % 100))).sure ⟨in_nI (k := 1 + X % 100) (a := 1) (b := 100) (by omega) (by omega) (by decide), trivial⟩ _) (cwV 1 hts gL_law_X6_pass rfl rfl rfl (by decide +kernel) ⟨Nat.le_of_ble_eq_true rfl, Nat.le_of_ble_eq_true rfl⟩) (pm_preV hw hs (pm_recv hw hq9 hf9 rfl)) rfl rfl hl.1 rfl (lv_room (Nat.le_of_ble_eq_true rfl)) dL_law_165 ⟨by show _ ≤ 600104; omega, by show _ ≤ 7301314; omega⟩) (fun E9 ce9 q9 L9 f9 H9 locs9 he9 _ _ _ _ => False.elim he9) (fun r9 La fa Ha loca hp hw9 => ?_)
  clear hw hW fs9 hq9 hf9
  have hw := hw9
  clear hw9
  have hr9 := hp.1
  have hW : Wd g o (mPs mm (nI (1 + X % 100))) 1 (κ + 1) 0 (2 + 2 * κ + 1) La fa := hp.2
  clear hp
  have hr9t : r9.toInt = (mm 0 1).toInt + ((1 + X % 100 : Nat) : Int) := by
    rw [hr9]
    exact add_toInt ht0 (by omega) (by omega)
  have e01 : (mPs mm (nI (1 + X % 100))) 0 1 = r9 := (mPs_01 mm _).trans hr9.symm
  have hge2 : ((κ + 1 : Nat) : Int) ≤ ((mPs mm (nI (1 + X % 100))) 0 1).toInt := by
    rw [e01, hr9t]
    omega
  have kt : kB (mPs mm (nI (1 + X % 100))) ((mPs mm (nI (1 + X % 100))) 0 1) := ⟨by omega, Int.le_refl _⟩
  refine lv_iload_n hx hb dL_law_168 rfl (lv_at hl 4 rfl) ?_
  refine lv_icmp_le (tgt := 207) hx hb dL_law_169 (by decide) (fun h9 => absurd h9 (by rw [i32_le, nI_toInt (by omega)]; omega)) (fun _ => ?_)
  refine lv_iload_n hx hb dL_law_172 rfl (lv_at hl 4 rfl) ?_
  refine lv_iconst (v := 4) hx hb dL_law_173 (by decide) ?_
  refine lv_irem hx hb dL_law_174 (by decide) ?_
  refine lv_topi (fun z9 hz9 => ?_)
  obtain rfl : z9 = nI (κ % 4) := hz9.trans (pk_rem (a := κ) (d := 4) (by omega) (by decide) (by decide))
  refine lv_if_ne (tgt := 209) hx hb dL_law_175 (by decide) (fun c_175 => ?_) (fun c_175 => ?_)
  · refine lv_iinc (v := (nI (κ + 1))) (lv' := [(2, .int (nI (κ + 1))), (4, .int (nI κ)), (3, .int (nI X)), (0, .ref b), (1, .ref o)]) hx hb dL_law_209 hl (k := 4) rfl (nI_1 κ) (by decide) rfl (fun ls hl => ?_)
    refine lv_goto (tgt := 35) hx hb dL_law_212 (by decide) ?_
    refine W.widen (k := 8058 + 1413 * (κ + 1)) (n := 515084 + 91554 * (κ + 1)) (by omega) (by omega) ?_
    exact ih _ _ _ ⟨(mPs mm (nI (1 + X % 100))), _, _, hge2, by rw [show 1 + 2 * (κ + 1) = 2 + 2 * κ + 1 by omega]; exact hW, hw, lv_sub hl [3, 4, 0] rfl⟩
  · refine lv_aload_n hx hb dL_law_178 rfl (lv_at hl 3 rfl) ?_
    refine lv_iconst (v := 0) hx hb dL_law_179 (by decide) ?_
    refine lv_aload_n hx hb dL_law_180 rfl (lv_at hl 3 rfl) ?_
    obtain ⟨fs9, hq9, hf9⟩ := hW.rcv
    refine pc_i hw (va_runV (As := []) (rest := [.int 0, .ref o]) CF (q_today l g _ _ hW _) (cwV 0 hts gL_law_X6_today rfl rfl rfl (by decide +kernel) ⟨Nat.le_of_ble_eq_true rfl, Nat.le_of_ble_eq_true rfl⟩) (pm_preV hw hs (pm_recv hw hq9 hf9 rfl)) rfl rfl hl.1 rfl (lv_room (Nat.le_of_ble_eq_true rfl)) dL_law_181 ⟨by show _ ≤ 600104; omega, by show _ ≤ 7301314; omega⟩) (fun r9 Lb fb Hb locb hp hw9 => ?_)
    clear hw hW fs9 hq9 hf9
    try clear loca Ha fa La
    have hw := hw9
    clear hw9
    obtain rfl : r9 = ((mPs mm (nI (1 + X % 100))) 0 1) := hp.1
    have hW : Wd g o (mPs mm (nI (1 + X % 100))) 1 (κ + 1) 0 (2 + 2 * κ + 1) Lb fb := hp.2
    clear hp
    obtain ⟨fs9, hq9, hf9⟩ := hW.rcv
    refine px_ic hw (vx_runV (As := [.int 0, .int ((mPs mm (nI (1 + X % 100))) 0 1)]) (rest := []) CF ((q_premium l hst g _ _ hW 0 ((mPs mm (nI (1 + X % 100))) 0 1)).sure ⟨pb0, kt, trivial⟩ _) (cwV 2 hts gL_law_X6_premium rfl rfl rfl (by decide +kernel) ⟨Nat.le_of_ble_eq_true rfl, Nat.le_of_ble_eq_true rfl⟩) (pm_preV hw hs (pm_recv hw hq9 hf9 rfl)) rfl rfl hl.1 rfl (lv_room (Nat.le_of_ble_eq_true rfl)) dL_law_184 ⟨by show _ ≤ 600104; omega, by show _ ≤ 7301314; omega⟩) (fun E9 ce9 q9 L9 f9 H9 locs9 he9 _ _ _ _ => False.elim he9) (fun r9 La fa Ha loca hp hw9 => ?_)
    clear hw hW fs9 hq9 hf9
    try clear locb Hb fb Lb
    have hw := hw9
    clear hw9
    obtain rfl : r9 = (pmM (mPs mm (nI (1 + X % 100))) (ix 0) ((mPs mm (nI (1 + X % 100))) 0 1) (κ + 1) 0) := hp.1
    have hW : Wd g o (mPs mm (nI (1 + X % 100))) 1 (κ + 1) 0 (2 + 2 * κ + 1) La fa := hp.2
    clear hp
    refine lv_aload_n hx hb dL_law_187 rfl (lv_at hl 3 rfl) ?_
    refine lv_iconst (v := 0) hx hb dL_law_188 (by decide) ?_
    refine lv_aload_n hx hb dL_law_189 rfl (lv_at hl 3 rfl) ?_
    obtain ⟨fs9, hq9, hf9⟩ := hW.rcv
    refine pc_i hw (va_runV (As := []) (rest := [.int 0, .ref o, .int (pmM (mPs mm (nI (1 + X % 100))) (ix 0) ((mPs mm (nI (1 + X % 100))) 0 1) (κ + 1) 0)]) CF (q_today l g _ _ hW _) (cwV 0 hts gL_law_X6_today rfl rfl rfl (by decide +kernel) ⟨Nat.le_of_ble_eq_true rfl, Nat.le_of_ble_eq_true rfl⟩) (pm_preV hw hs (pm_recv hw hq9 hf9 rfl)) rfl rfl hl.1 rfl (lv_room (Nat.le_of_ble_eq_true rfl)) dL_law_190 ⟨by show _ ≤ 600104; omega, by show _ ≤ 7301314; omega⟩) (fun r9 Lb fb Hb locb hp hw9 => ?_)
    clear hw hW fs9 hq9 hf9
    try clear loca Ha fa La
    have hw := hw9
    clear hw9
    obtain rfl : r9 = ((mPs mm (nI (1 + X % 100))) 0 1) := hp.1
    have hW : Wd g o (mPs mm (nI (1 + X % 100))) 1 (κ + 1) 0 (2 + 2 * κ + 1) Lb fb := hp.2
    clear hp
    obtain ⟨fs9, hq9, hf9⟩ := hW.rcv
    refine px_ic hw (vx_runV (As := [.int 0, .int ((mPs mm (nI (1 + X % 100))) 0 1)]) (rest := [.int (pmM (mPs mm (nI (1 + X % 100))) (ix 0) ((mPs mm (nI (1 + X % 100))) 0 1) (κ + 1) 0)]) CF ((q_premiumByDays l hst g _ _ hW 0 ((mPs mm (nI (1 + X % 100))) 0 1)).sure ⟨pb0, kt, trivial⟩ _) (cwV 2 hts gL_law_X6_premiumByDays rfl rfl rfl (by decide +kernel) ⟨Nat.le_of_ble_eq_true rfl, Nat.le_of_ble_eq_true rfl⟩) (pm_preV hw hs (pm_recv hw hq9 hf9 rfl)) rfl rfl hl.1 rfl (lv_room (Nat.le_of_ble_eq_true rfl)) dL_law_193 ⟨by show _ ≤ 600104; omega, by show _ ≤ 7301314; omega⟩) (fun E9 ce9 q9 L9 f9 H9 locs9 he9 _ _ _ _ => False.elim he9) (fun r9 La fa Ha loca hp hw9 => ?_)
    clear hw hW fs9 hq9 hf9
    try clear locb Hb fb Lb
    have hw := hw9
    clear hw9
    obtain rfl : r9 = (pmM (mPs mm (nI (1 + X % 100))) (ix 0) ((mPs mm (nI (1 + X % 100))) 0 1) (κ + 1) 0) := hp.1
    have hW : Wd g o (mPs mm (nI (1 + X % 100))) 1 (κ + 1) 0 (2 + 2 * κ + 1) La fa := hp.2
    clear hp
    refine lv_icmp_ne (tgt := 207) hx hb dL_law_196 (by decide) (fun h9 => absurd h9 (fun q9 => q9 rfl)) (fun _ => ?_)
    refine lv_aload_n hx hb dL_law_199 rfl (lv_at hl 3 rfl) ?_
    refine lv_iconst (v := 1) hx hb dL_law_200 (by decide) ?_
    refine px_ic hw (vx_runS (As := [.ref o, .int 1]) (rest := []) CF (l_refuses1 l hst g _ _ hW rfl (by decide) (by omega) _) (va_cwS 2 hts gL_law_L_refuses rfl rfl rfl (by decide +kernel) ⟨Nat.le_of_ble_eq_true rfl, Nat.le_of_ble_eq_true rfl⟩) (pn_preS hw hs hN) rfl rfl hl.1 rfl (lv_room (Nat.le_of_ble_eq_true rfl)) dL_law_201 ⟨by show _ ≤ 600104; omega, by show _ ≤ 7301314; omega⟩) (fun E9 ce9 q9 L9 f9 H9 locs9 he9 _ _ _ _ => False.elim he9) (fun r9 Lb fb Hb locb hp hw9 => ?_)
    clear hw hW
    try clear loca Ha fa La
    have hw := hw9
    clear hw9
    obtain rfl : r9 = 1 := hp.1
    have hW : Wd g o (mPs mm (nI (1 + X % 100))) 1 (κ + 1) 0 (2 + 2 * κ + 1) Lb fb := hp.2
    clear hp
    refine lv_if_ne (tgt := 209) hx hb dL_law_204 (by decide) (fun _ => ?_) (fun h9 => absurd h9 (by decide))
    refine lv_iinc (v := (nI (κ + 1))) (lv' := [(2, .int (nI (κ + 1))), (4, .int (nI κ)), (3, .int (nI X)), (0, .ref b), (1, .ref o)]) hx hb dL_law_209 hl (k := 4) rfl (nI_1 κ) (by decide) rfl (fun ls hl => ?_)
    refine lv_goto (tgt := 35) hx hb dL_law_212 (by decide) ?_
    refine W.widen (k := 8058 + 1413 * (κ + 1)) (n := 515084 + 91554 * (κ + 1)) (by omega) (by omega) ?_
    exact ih _ _ _ ⟨(mPs mm (nI (1 + X % 100))), _, _, hge2, by rw [show 1 + 2 * (κ + 1) = 2 + 2 * κ + 1 by omega]; exact hW, hw, lv_sub hl [3, 4, 0] rfl⟩
set_option maxHeartbeats 4000000 in
set_option maxRecDepth 100000 in
theorem law_turn {p : Program} {e : Env} {s : State} {m : MethodId} {below : List Frame} {meth : Method} {c : Code} {l : Launch} {b L : Nat} {xs : Nat → Int32} {Q : State → Prop} {g : GE} {o κ : Nat} {H : Heap} {locs : List Loc} {ls : Array Slot} (hst : l.stackTraces = false) (hL : L ≤ 260) (C0 : lw_At p s m meth c b L xs) (hs : Sx g (lwA s) s s.heap) (hN : NcU s) (hκ : κ < 16) (I : LawI g s b o κ H locs ls) (ih : ∀ (H1 : Heap) (locs1 : List Loc) (ls1 : Array Slot), LawI g s b o (κ + 1) H1 locs1 ls1 → W p l e room_1 s m #[Value.ref b] below meth c H1 locs1 (8058 + 1413 * (κ + 1)) (515084 + 91554 * (κ + 1)) Q (F0 m 35 ls1 [])) : W p l e room_1 s m #[Value.ref b] below meth c H locs (8058 + 1413 * κ) (515084 + 91554 * κ) Q (F0 m 41 ls []) := by
  obtain ⟨hx, hb, hr, hml, hown0, hts0, hX, hbl, hlocks, hgv⟩ := id C0
  have hbA : ¬ lwA s b := Nat.not_le.mpr hbl
  have hts : ∀ w ∈ wsL_law, w.before #[Value.ref b] s = true := fun w h => hts0 w (wsL_law_in w h)
  have hown : s.vm.findClass RL = some m.cls := hown0
  have CF := (⟨hx, hb, hml, hown, hts⟩ : CallFix p m c cL_law 5 s #[Value.ref b] wsL_law RL)
  obtain ⟨mm, L1, f1, hge, hW, hw, hl⟩ := I
  have pb0 : pB 1 0 := pb_0 (by decide)
  refine W_cut (P := fun v => ∃ X : Nat, X < 2 ^ 24 ∧ v = nI X) (pc' := 62) (rest := []) (fun J => ?_) (fun v9 hv9 => ?_)
  · refine lv_aload_n hx hb dL_law_41 rfl (lv_at hl 0 rfl) ?_
    refine va_slen hx hb hX hbl hbA hw.2.2.2.1 dL_law_42 ?_
    refine lv_if_ne (tgt := 53) hx hb dL_law_43 (by decide) (fun c_43 => ?_) (fun c_43 => ?_)
    · refine lv_aload_n hx hb dL_law_53 rfl (lv_at hl 0 rfl) ?_
      refine lv_iload_n hx hb dL_law_54 rfl (lv_at hl 2 rfl) ?_
      refine lv_aload_n hx hb dL_law_55 rfl (lv_at hl 0 rfl) ?_
      refine va_slen hx hb hX hbl hbA hw.2.2.2.1 dL_law_56 ?_
      have hL0 : 0 < L := by
        rcases Nat.eq_zero_or_pos L with h | h
        · exact absurd (by rw [h]; rfl) c_43
        · exact h
      refine lv_irem hx hb dL_law_57 c_43 ?_
      refine lv_topi (fun z9 hz9 => ?_)
      obtain rfl : z9 = nI (κ % L) := hz9.trans (pk_rem (a := κ) (d := L) (by omega) hL0 (by omega))
      refine lw_sld hx hb hX hbl hbA hw (by omega) (q := κ % L) rfl (Nat.mod_lt _ hL0) dL_law_58 ?_
      refine lv_bipush (v := 8) hx hb dL_law_59 (by decide) ?_
      refine lv_iushr (v := nI ((xs (κ % L)).toBitVec.toNat / 256)) hx hb dL_law_61 (us8 _) ?_
      exact J _ (⟨_, us8_lt _, rfl⟩)
    · refine lv_bipush (v := 53) hx hb dL_law_46 (by decide) ?_
      refine lv_iload_n hx hb dL_law_48 rfl (lv_at hl 2 rfl) ?_
      refine lv_imul hx hb dL_law_49 ?_
      refine lv_goto (tgt := 62) hx hb dL_law_50 (by decide) ?_
      exact J _ (⟨53 * κ, by omega, pk_mul 53 κ⟩)
  obtain ⟨X, hX9, rfl⟩ := hv9
  refine lv_istore_n (lv' := [(3, .int (nI X)), (0, .ref b), (1, .ref o), (2, .int (nI κ))]) hx hb dL_law_62 rfl hl (by decide) rfl (fun ls hl => ?_)
  refine lv_iload_n hx hb dL_law_63 rfl (lv_at hl 0 rfl) ?_
  refine lv_iconst (v := 3) hx hb dL_law_64 (by decide) ?_
  refine lv_irem hx hb dL_law_65 (by decide) ?_
  refine lv_topi (fun z9 hz9 => ?_)
  obtain rfl : z9 = nI (X % 3) := hz9.trans (pk_rem (a := X) (d := 3) (by omega) (by decide) (by decide))
  refine lv_if_ne (tgt := 89) hx hb dL_law_66 (by decide) (fun c_66 => ?_) (fun c_66 => ?_)
  · refine lv_iload_n hx hb dL_law_89 rfl (lv_at hl 0 rfl) ?_
    refine lv_iconst (v := 3) hx hb dL_law_90 (by decide) ?_
    refine lv_irem hx hb dL_law_91 (by decide) ?_
    refine lv_topi (fun z9 hz9 => ?_)
    obtain rfl : z9 = nI (X % 3) := hz9.trans (pk_rem (a := X) (d := 3) (by omega) (by decide) (by decide))
    refine lv_iconst (v := 1) hx hb dL_law_92 (by decide) ?_
    refine lv_icmp_ne (tgt := 121) hx hb dL_law_93 (by decide) (fun c_93 => ?_) (fun c_93 => ?_)
    · refine lv_iload_n hx hb dL_law_121 rfl (lv_at hl 3 rfl) ?_
      refine lv_iconst (v := 2) hx hb dL_law_122 (by decide) ?_
      refine lv_irem hx hb dL_law_123 (by decide) ?_
      refine lv_topi (fun z9 hz9 => ?_)
      obtain rfl : z9 = nI (κ % 2) := hz9.trans (pk_rem (a := κ) (d := 2) (by omega) (by decide) (by decide))
      refine lv_if_ne (tgt := 140) hx hb dL_law_124 (by decide) (fun c_124 => ?_) (fun c_124 => ?_)
      · refine lv_aload_n hx hb dL_law_140 rfl (lv_at hl 2 rfl) ?_
        refine lv_iconst (v := 0) hx hb dL_law_141 (by decide) ?_
        refine lv_iload_n hx hb dL_law_142 rfl (lv_at hl 0 rfl) ?_
        refine lv_sipush (v := 365) hx hb dL_law_143 (by decide) ?_
        refine lv_irem hx hb dL_law_146 (by decide) ?_
        refine lv_topi (fun z9 hz9 => ?_)
        obtain rfl : z9 = nI (X % 365) := hz9.trans (pk_rem (a := X) (d := 365) (by omega) (by decide) (by decide))
        obtain ⟨fs9, hq9, hf9⟩ := hW.rcv
        refine px_ic hw (vx_runV (As := [.int 0, .int (nI (X % 365))]) (rest := []) CF ((q_reinstate l hst g _ _ hW 0 (nI (X % 365))).sure ⟨pb0, day_at (Nat.mod_lt _ (by decide)) rfl, show κ < 60 by omega, trivial⟩ _) (cwV 2 hts gL_law_X6_reinstate rfl rfl rfl (by decide +kernel) ⟨Nat.le_of_ble_eq_true rfl, Nat.le_of_ble_eq_true rfl⟩) (pm_preV hw hs (pm_recv hw hq9 hf9 rfl)) rfl rfl hl.1 rfl (lv_room (Nat.le_of_ble_eq_true rfl)) dL_law_147 ⟨by show _ ≤ 600104; omega, by show _ ≤ 7301314; omega⟩) (fun E9 ce9 q9 L9 f9 H9 locs9 he9 _ _ _ _ => False.elim he9) (fun r9 La fa Ha loca hp hw9 => ?_)
        clear hw hW fs9 hq9 hf9
        have hw := hw9
        clear hw9
        obtain rfl : r9 = (nI κ) := hp.1
        have hW : Wd g o (mTell mm κ 0 (nI 3) (nI 0) (nI (X % 365)) 0) 1 (κ + 1) 0 (1 + 2 * κ + 1) La fa := hp.2
        clear hp
        refine W.widen (k := 8058 + 1413 * κ + 8) (n := 515084 + 91554 * κ + 524) (by omega) (by omega) ?_
        exact law_tail hst hL C0 hs hN hκ hX9 (mm := (mTell mm κ 0 (nI 3) (nI 0) (nI (X % 365)) 0)) (by rw [mTell_01]; exact hge) (by rw [show 2 + 2 * κ = 1 + 2 * κ + 1 by omega]; exact hW) hw (lv_sub hl [0, 1, 2, 3] rfl) ih
      · refine lv_aload_n hx hb dL_law_127 rfl (lv_at hl 2 rfl) ?_
        refine lv_iconst (v := 0) hx hb dL_law_128 (by decide) ?_
        refine lv_iload_n hx hb dL_law_129 rfl (lv_at hl 0 rfl) ?_
        refine lv_sipush (v := 365) hx hb dL_law_130 (by decide) ?_
        refine lv_irem hx hb dL_law_133 (by decide) ?_
        refine lv_topi (fun z9 hz9 => ?_)
        obtain rfl : z9 = nI (X % 365) := hz9.trans (pk_rem (a := X) (d := 365) (by omega) (by decide) (by decide))
        obtain ⟨fs9, hq9, hf9⟩ := hW.rcv
        refine px_ic hw (vx_runV (As := [.int 0, .int (nI (X % 365))]) (rest := []) CF ((q_cancel l hst g _ _ hW 0 (nI (X % 365))).sure ⟨pb0, day_at (Nat.mod_lt _ (by decide)) rfl, show κ < 60 by omega, trivial⟩ _) (cwV 2 hts gL_law_X6_cancel rfl rfl rfl (by decide +kernel) ⟨Nat.le_of_ble_eq_true rfl, Nat.le_of_ble_eq_true rfl⟩) (pm_preV hw hs (pm_recv hw hq9 hf9 rfl)) rfl rfl hl.1 rfl (lv_room (Nat.le_of_ble_eq_true rfl)) dL_law_134 ⟨by show _ ≤ 600104; omega, by show _ ≤ 7301314; omega⟩) (fun E9 ce9 q9 L9 f9 H9 locs9 he9 _ _ _ _ => False.elim he9) (fun r9 Lb fb Hb locb hp hw9 => ?_)
        clear hw hW fs9 hq9 hf9
        try clear loca Ha fa La
        have hw := hw9
        clear hw9
        obtain rfl : r9 = (nI κ) := hp.1
        have hW : Wd g o (mTell mm κ 0 (nI 2) (nI 0) (nI (X % 365)) 0) 1 (κ + 1) 0 (1 + 2 * κ + 1) Lb fb := hp.2
        clear hp
        refine lv_goto (tgt := 150) hx hb dL_law_137 (by decide) ?_
        refine W.widen (k := 8058 + 1413 * κ + 8) (n := 515084 + 91554 * κ + 524) (by omega) (by omega) ?_
        exact law_tail hst hL C0 hs hN hκ hX9 (mm := (mTell mm κ 0 (nI 2) (nI 0) (nI (X % 365)) 0)) (by rw [mTell_01]; exact hge) (by rw [show 2 + 2 * κ = 1 + 2 * κ + 1 by omega]; exact hW) hw (lv_sub hl [0, 1, 2, 3] rfl) ih
    · refine lv_aload_n hx hb dL_law_96 rfl (lv_at hl 2 rfl) ?_
      refine lv_iconst (v := 0) hx hb dL_law_97 (by decide) ?_
      refine lv_iload_n hx hb dL_law_98 rfl (lv_at hl 0 rfl) ?_
      refine lv_iconst (v := 3) hx hb dL_law_99 (by decide) ?_
      refine lv_idiv hx hb dL_law_100 (by decide) ?_
      refine lv_topi (fun z9 hz9 => ?_)
      obtain rfl : z9 = nI (X / 3) := hz9.trans (pk_div (a := X) (d := 3) (by omega) (by decide) (by decide))
      refine lv_iconst (v := 3) hx hb dL_law_101 (by decide) ?_
      refine lv_irem hx hb dL_law_102 (by decide) ?_
      refine lv_topi (fun z9 hz9 => ?_)
      obtain rfl : z9 = nI ((X / 3) % 3) := hz9.trans (pk_rem (a := (X / 3)) (d := 3) (by omega) (by decide) (by decide))
      refine lv_iload_n hx hb dL_law_103 rfl (lv_at hl 0 rfl) ?_
      refine lv_sipush (v := 365) hx hb dL_law_104 (by decide) ?_
      refine lv_irem hx hb dL_law_107 (by decide) ?_
      refine lv_topi (fun z9 hz9 => ?_)
      obtain rfl : z9 = nI (X % 365) := hz9.trans (pk_rem (a := X) (d := 365) (by omega) (by decide) (by decide))
      refine lv_iload_n hx hb dL_law_108 rfl (lv_at hl 0 rfl) ?_
      refine lv_bipush (v := 41) hx hb dL_law_109 (by decide) ?_
      refine lv_irem hx hb dL_law_111 (by decide) ?_
      refine lv_topi (fun z9 hz9 => ?_)
      obtain rfl : z9 = nI (X % 41) := hz9.trans (pk_rem (a := X) (d := 41) (by omega) (by decide) (by decide))
      refine lv_bipush (v := 20) hx hb dL_law_112 (by decide) ?_
      refine lv_isub hx hb dL_law_114 ?_
      obtain ⟨fs9, hq9, hf9⟩ := hW.rcv
      refine px_ic hw (vx_runV (As := [.int 0, .int (nI ((X / 3) % 3)), .int (nI (X % 365)), .int ((nI (X % 41)) - 20)]) (rest := []) CF ((q_add l hst g _ _ hW 0 (nI ((X / 3) % 3)) (nI (X % 365)) ((nI (X % 41)) - 20)).sure ⟨pb0, fld_at (Nat.mod_lt _ (by decide)) rfl, day_at (Nat.mod_lt _ (by decide)) rfl, (show -20 ≤ (numI (X % 41)).toInt ∧ (numI (X % 41)).toInt ≤ 20 by rw [numI_toInt (by omega)]; omega), show κ < 60 by omega, trivial⟩ _) (cwV 4 hts gL_law_X6_add rfl rfl rfl (by decide +kernel) ⟨Nat.le_of_ble_eq_true rfl, Nat.le_of_ble_eq_true rfl⟩) (pm_preV hw hs (pm_recv hw hq9 hf9 rfl)) rfl rfl hl.1 rfl (lv_room (Nat.le_of_ble_eq_true rfl)) dL_law_115 ⟨by show _ ≤ 600104; omega, by show _ ≤ 7301314; omega⟩) (fun E9 ce9 q9 L9 f9 H9 locs9 he9 _ _ _ _ => False.elim he9) (fun r9 La fa Ha loca hp hw9 => ?_)
      clear hw hW fs9 hq9 hf9
      try clear locb Hb fb Lb
      have hw := hw9
      clear hw9
      obtain rfl : r9 = (nI κ) := hp.1
      have hW : Wd g o (mTell mm κ 0 (nI 1) (nI (X / 3 % 3)) (nI (X % 365)) (nI (X % 41) - 20)) 1 (κ + 1) 0 (1 + 2 * κ + 1) La fa := hp.2
      clear hp
      refine lv_goto (tgt := 150) hx hb dL_law_118 (by decide) ?_
      refine W.widen (k := 8058 + 1413 * κ + 8) (n := 515084 + 91554 * κ + 524) (by omega) (by omega) ?_
      exact law_tail hst hL C0 hs hN hκ hX9 (mm := (mTell mm κ 0 (nI 1) (nI (X / 3 % 3)) (nI (X % 365)) (nI (X % 41) - 20))) (by rw [mTell_01]; exact hge) (by rw [show 2 + 2 * κ = 1 + 2 * κ + 1 by omega]; exact hW) hw (lv_sub hl [0, 1, 2, 3] rfl) ih
  · refine lv_aload_n hx hb dL_law_69 rfl (lv_at hl 2 rfl) ?_
    refine lv_iconst (v := 0) hx hb dL_law_70 (by decide) ?_
    refine lv_iload_n hx hb dL_law_71 rfl (lv_at hl 0 rfl) ?_
    refine lv_iconst (v := 3) hx hb dL_law_72 (by decide) ?_
    refine lv_irem hx hb dL_law_73 (by decide) ?_
    refine lv_topi (fun z9 hz9 => ?_)
    obtain rfl : z9 = nI (X % 3) := hz9.trans (pk_rem (a := X) (d := 3) (by omega) (by decide) (by decide))
    refine lv_iload_n hx hb dL_law_74 rfl (lv_at hl 0 rfl) ?_
    refine lv_sipush (v := 365) hx hb dL_law_75 (by decide) ?_
    refine lv_irem hx hb dL_law_78 (by decide) ?_
    refine lv_topi (fun z9 hz9 => ?_)
    obtain rfl : z9 = nI (X % 365) := hz9.trans (pk_rem (a := X) (d := 365) (by omega) (by decide) (by decide))
    refine lv_iload_n hx hb dL_law_79 rfl (lv_at hl 0 rfl) ?_
    refine lv_bipush (v := 21) hx hb dL_law_80 (by decide) ?_
    refine lv_irem hx hb dL_law_82 (by decide) ?_
    refine lv_topi (fun z9 hz9 => ?_)
    obtain rfl : z9 = nI (X % 21) := hz9.trans (pk_rem (a := X) (d := 21) (by omega) (by decide) (by decide))
    obtain ⟨fs9, hq9, hf9⟩ := hW.rcv
    refine px_ic hw (vx_runV (As := [.int 0, .int (nI (X % 3)), .int (nI (X % 365)), .int (nI (X % 21))]) (rest := []) CF ((q_change l hst g _ _ hW 0 (nI (X % 3)) (nI (X % 365)) (nI (X % 21))).sure ⟨pb0, fld_at (Nat.mod_lt _ (by decide)) rfl, day_at (Nat.mod_lt _ (by decide)) rfl, in_nI (k := X % 21) (a := 0) (b := 20) (Nat.zero_le _) (by omega) (by decide), show κ < 60 by omega, trivial⟩ _) (cwV 4 hts gL_law_X6_change rfl rfl rfl (by decide +kernel) ⟨Nat.le_of_ble_eq_true rfl, Nat.le_of_ble_eq_true rfl⟩) (pm_preV hw hs (pm_recv hw hq9 hf9 rfl)) rfl rfl hl.1 rfl (lv_room (Nat.le_of_ble_eq_true rfl)) dL_law_83 ⟨by show _ ≤ 600104; omega, by show _ ≤ 7301314; omega⟩) (fun E9 ce9 q9 L9 f9 H9 locs9 he9 _ _ _ _ => False.elim he9) (fun r9 Lb fb Hb locb hp hw9 => ?_)
    clear hw hW fs9 hq9 hf9
    try clear loca Ha fa La
    have hw := hw9
    clear hw9
    obtain rfl : r9 = (nI κ) := hp.1
    have hW : Wd g o (mTell mm κ 0 (nI 0) (nI (X % 3)) (nI (X % 365)) (nI (X % 21))) 1 (κ + 1) 0 (1 + 2 * κ + 1) Lb fb := hp.2
    clear hp
    refine lv_goto (tgt := 150) hx hb dL_law_86 (by decide) ?_
    refine W.widen (k := 8058 + 1413 * κ + 8) (n := 515084 + 91554 * κ + 524) (by omega) (by omega) ?_
    exact law_tail hst hL C0 hs hN hκ hX9 (mm := (mTell mm κ 0 (nI 0) (nI (X % 3)) (nI (X % 365)) (nI (X % 21)))) (by rw [mTell_01]; exact hge) (by rw [show 2 + 2 * κ = 1 + 2 * κ + 1 by omega]; exact hW) hw (lv_sub hl [0, 1, 2, 3] rfl) ih
end LAWL
