/-! what a call answers that may refuse -/
section ACT
def codeE (E : String) : Int32 := if E = "java/lang/IndexOutOfBoundsException" then -90000001 else if E = "java/lang/IllegalArgumentException" then -90000002 else -90000003
theorem cE_i : codeE IOX = -90000001 := if_pos rfl
theorem cE_a : codeE IAX = -90000002 := (if_neg (by decide)).trans (if_pos rfl)
theorem cE_s : codeE ISX = -90000003 := (if_neg (by decide)).trans (if_neg (by decide))
theorem exL_mem {E : String} : ∀ D : List (String × Prop), exL D E → ∃ x, x ∈ D ∧ E = x.1
  | [], h => h.elim
  | x :: D, h => by
    rcases h with ⟨-, h⟩ | ⟨-, h⟩
    · exact ⟨x, List.mem_cons_self, h⟩
    · obtain ⟨y, hy, e⟩ := exL_mem D h
      exact ⟨y, List.mem_cons_of_mem _ hy, e⟩
theorem exL_all {E : String} : ∀ {D : List (String × Prop)}, exL D E → allD D → False
  | [], h, _ => h
  | x :: D, h, ha => by
    rcases h with ⟨h, -⟩ | ⟨-, h⟩
    · exact h ha.1
    · exact exL_all h ha.2
theorem Xi.sure {l : Launch} {y : MethodName} {ws : List Cond} {rm : Room} {g : GE} {L : List Nat} {f : Nat → va_E} {av : List Value} {D : List (String × Prop)} {ok : Int32 → PE → Prop} {bad : PE → Prop} {mc ms : Nat} (h : Xi l y ws rm g L f av (fun r u => allD D ∧ ok r u) (fun E u => exL D E ∧ bad u) mc ms) (ha : allD D) : Xi l y ws rm g L f av ok (fun _ _ => False) mc ms := h.imp (fun _ _ h => h.2) (fun _ _ h => exL_all h.1 ha)
/-- an answer, or the number of the exception -/
def AnP (D : List (String × Prop)) (ok : Int32 → PE → Prop) (bad : PE → Prop) (r : Int32) (u : PE) : Prop := (allD D ∧ ok r u) ∨ ∃ E, (exL D E ∧ bad u) ∧ r = codeE E
theorem AnP.ok {D : List (String × Prop)} {ok : Int32 → PE → Prop} {bad : PE → Prop} {r : Int32} {u : PE} (h : AnP D ok bad r u) (ha : allD D) : ok r u := by
  rcases h with ⟨-, h⟩ | ⟨E, ⟨h, -⟩, -⟩
  · exact h
  · exact (exL_all h ha).elim
theorem AnP.f1 {E1 : String} {P1 : Prop} {D : List (String × Prop)} {ok : Int32 → PE → Prop} {bad : PE → Prop} {r v : Int32} {u : PE} (h : AnP ((E1, P1) :: D) ok bad r u) (hv : codeE E1 = v) (h1 : ¬ P1) : r = v ∧ bad u := by
  rcases h with ⟨h, -⟩ | ⟨E, ⟨h, hb⟩, hr⟩
  · exact absurd h.1 h1
  · rcases h with ⟨-, rfl⟩ | ⟨h, -⟩
    · exact ⟨hr.trans hv, hb⟩
    · exact absurd h h1
theorem AnP.f2 {E1 E2 : String} {P1 P2 : Prop} {D : List (String × Prop)} {ok : Int32 → PE → Prop} {bad : PE → Prop} {r v : Int32} {u : PE} (h : AnP ((E1, P1) :: (E2, P2) :: D) ok bad r u) (hv : codeE E2 = v) (h1 : P1) (h2 : ¬ P2) : r = v ∧ bad u := by
  rcases h with ⟨h, -⟩ | ⟨E, ⟨h, hb⟩, hr⟩
  · exact absurd h.2.1 h2
  · rcases h with ⟨h, -⟩ | ⟨-, ⟨-, rfl⟩ | ⟨h, -⟩⟩
    · exact absurd h1 h
    · exact ⟨hr.trans hv, hb⟩
    · exact absurd h h2
theorem AnP.f3 {E1 E2 E3 : String} {P1 P2 P3 : Prop} {D : List (String × Prop)} {ok : Int32 → PE → Prop} {bad : PE → Prop} {r v : Int32} {u : PE} (h : AnP ((E1, P1) :: (E2, P2) :: (E3, P3) :: D) ok bad r u) (hv : codeE E3 = v) (h1 : P1) (h2 : P2) (h3 : ¬ P3) : r = v ∧ bad u := by
  rcases h with ⟨h, -⟩ | ⟨E, ⟨h, hb⟩, hr⟩
  · exact absurd h.2.2.1 h3
  · rcases h with ⟨h, -⟩ | ⟨-, ⟨h, -⟩ | ⟨-, ⟨-, rfl⟩ | ⟨h, -⟩⟩⟩
    · exact absurd h1 h
    · exact absurd h2 h
    · exact ⟨hr.trans hv, hb⟩
    · exact absurd h h3
theorem AnP.f4 {E1 E2 E3 E4 : String} {P1 P2 P3 P4 : Prop} {D : List (String × Prop)} {ok : Int32 → PE → Prop} {bad : PE → Prop} {r v : Int32} {u : PE} (h : AnP ((E1, P1) :: (E2, P2) :: (E3, P3) :: (E4, P4) :: D) ok bad r u) (hv : codeE E4 = v) (h1 : P1) (h2 : P2) (h3 : P3) (h4 : ¬ P4) : r = v ∧ bad u := by
  rcases h with ⟨h, -⟩ | ⟨E, ⟨h, hb⟩, hr⟩
  · exact absurd h.2.2.2.1 h4
  · rcases h with ⟨h, -⟩ | ⟨-, ⟨h, -⟩ | ⟨-, ⟨h, -⟩ | ⟨-, ⟨-, rfl⟩ | ⟨h, -⟩⟩⟩⟩
    · exact absurd h1 h
    · exact absurd h2 h
    · exact absurd h3 h
    · exact ⟨hr.trans hv, hb⟩
    · exact absurd h h4
theorem AnP.f5 {E1 E2 E3 E4 E5 : String} {P1 P2 P3 P4 P5 : Prop} {D : List (String × Prop)} {ok : Int32 → PE → Prop} {bad : PE → Prop} {r v : Int32} {u : PE} (h : AnP ((E1, P1) :: (E2, P2) :: (E3, P3) :: (E4, P4) :: (E5, P5) :: D) ok bad r u) (hv : codeE E5 = v) (h1 : P1) (h2 : P2) (h3 : P3) (h4 : P4) (h5 : ¬ P5) : r = v ∧ bad u := by
  rcases h with ⟨h, -⟩ | ⟨E, ⟨h, hb⟩, hr⟩
  · exact absurd h.2.2.2.2.1 h5
  · rcases h with ⟨h, -⟩ | ⟨-, ⟨h, -⟩ | ⟨-, ⟨h, -⟩ | ⟨-, ⟨h, -⟩ | ⟨-, ⟨-, rfl⟩ | ⟨h, -⟩⟩⟩⟩⟩
    · exact absurd h1 h
    · exact absurd h2 h
    · exact absurd h3 h
    · exact absurd h4 h
    · exact ⟨hr.trans hv, hb⟩
    · exact absurd h h5
set_option maxHeartbeats 4000000 in
set_option maxRecDepth 100000 in
theorem act_open (l : Launch) (g : GE) (L : List Nat) (f : Nat → va_E) {o : Nat} {fs : List Value} (hq0 : o ∈ L) (hf0 : f o = .inr (8, fs)) (x y z w : Int32) {D : List (String × Prop)} {ok : Int32 → PE → Prop} {bad : PE → Prop} (hc : Xi l yX6_open wsX6_open (rmH 8 6 300) g L f [.ref o, .int x] (fun r u => allD D ∧ ok r u) (fun E u => exL D E ∧ bad u) 6 300) (hD : ∀ q, q ∈ D → q.1 = IOX ∨ q.1 = IAX ∨ q.1 = ISX) : Ni l yL_act wsL_act (rmH 10 8 524) g L f [.ref o, .int 0, .int x, .int y, .int z, .int w] (AnP D ok bad) 8 524 := by
  intro sz
  refine vx_ofWH (cc := cL_act) (maxL := 7) (ret := some .int) (hh := [(0, 293, 294, 71), (0, 293, 299, 74), (0, 293, 304, 77)]) (by decide) rfl ?_
  intro p e s m args below meth c s₁ B hml hv
  obtain ⟨rfl, hv⟩ := hv
  have hx := B.exec
  have hb := B.bytes
  have hr := B.returns
  have hts := atoms_spec (ws := wsL_act) B.pre
  have hown : s.vm.findClass RL = some m.cls := findClass_of_methodNamed B.named
  have hlocks := B.notSynchronized
  have htab := vx_table (x := yL_act) B (hts (.codeWith yL_act cL_act 7 (some .int) [(0, 293, 294, 71), (0, 293, 299, 74), (0, 293, 304, 77)]) List.mem_cons_self)
  obtain ⟨⟨rfl, hw, hs⟩, hn⟩ := pn_begin hv
  generalize va_A (va_pl L f) s.heap.size = A at hw hs ⊢
  have CF := (⟨hx, hb, hml, hown, hts⟩ : CallFix p m c cL_act 7 s _ wsL_act RL)
  have hl := lv_entry ([.ref o, .int 0, .int x, .int y, .int z, .int w]) (n := 7) (Nat.le_of_ble_eq_true rfl)
  rw [lg_entry_eq]
  generalize (lg_sl ([.ref o, .int 0, .int x, .int y, .int z, .int w]) ++ List.replicate (7 - (lg_sl ([.ref o, .int 0, .int x, .int y, .int z, .int w])).length) Slot.unset).toArray = ls at hl ⊢
  have hl : lv_has ls 7 [(0, .ref o), (1, .int 0), (2, .int x), (3, .int y), (4, .int z), (5, .int w)] := hl
  refine lv_iload_n hx hb dL_act_0 rfl (lv_at hl 1 rfl) ?_
  refine lv_if_ne (tgt := 12) hx hb dL_act_1 (by decide) (fun h9 => absurd rfl h9) (fun _ => ?_)
  refine lv_aload_n hx hb dL_act_4 rfl (lv_at hl 0 rfl) ?_
  refine lv_iload_n hx hb dL_act_5 rfl (lv_at hl 2 rfl) ?_
  refine px_ic hw (vx_runV (As := [.int x]) (rest := []) CF (hc _) (cwV 1 hts gL_act_X6_open rfl rfl rfl (by decide +kernel) ⟨Nat.le_of_ble_eq_true rfl, Nat.le_of_ble_eq_true rfl⟩) (pm_preV hw hs (pm_recv hw hq0 hf0 rfl)) rfl rfl hl.1 rfl (lv_room (Nat.le_of_ble_eq_true rfl)) dL_act_6 ⟨Nat.le_of_ble_eq_true rfl, Nat.le_of_ble_eq_true rfl⟩) (fun E ce q9 L1 f1 H1 locs1 he hw1 h1 h2 h3 => ?_) (fun r L1 f1 H locs hp hw => ?_)
  · obtain ⟨q, hq, rfl⟩ := exL_mem _ he.1
    rcases hD q hq with e9 | e9 | e9
    · rw [e9] at h3 he
      refine vx_catch hown [] ⟨0, 293, 294, 71⟩ [⟨0, 293, 299, 74⟩, ⟨0, 293, 304, 77⟩] (by rw [htab]; rfl) (fun z hz => absurd hz List.not_mem_nil) (by decide) (by decide) (hts (.classLink RL 71 "java/lang/IndexOutOfBoundsException") (by decide +kernel)) (va_Nw.use rfl (hs.2.2.2.1 ("java/lang/IndexOutOfBoundsException", "java/lang/IndexOutOfBoundsException") (by decide +kernel))) h1 h2 h3 ?_
      refine lv_astore (lv' := [(6, .ref q9), (0, .ref o), (1, .int 0), (2, .int x), (3, .int y), (4, .int z), (5, .int w)]) hx hb dL_act_294 hl (by decide) rfl (fun ls hl => ?_)
      refine lv_ldc (v := (-90000001)) hx hb hown (hts (.constant RL 73 (-90000001)) (by decide +kernel)) dL_act_296 ?_
      exact vx_ret (pr_i (v := (-90000001)) hx hb hr hlocks hw1 rfl ⟨Nat.le_of_ble_eq_true rfl, Nat.le_of_ble_eq_true rfl⟩ (Or.inr ⟨_, he, cE_i.symm⟩) dL_act_298)
    · rw [e9] at h3 he
      refine vx_catch hown [⟨0, 293, 294, 71⟩] ⟨0, 293, 299, 74⟩ [⟨0, 293, 304, 77⟩] (by rw [htab]; rfl) (fun z hz => by
              simp only [List.mem_cons, List.not_mem_nil, or_false] at hz
              subst hz
              exact Or.inr ⟨by decide, "java/lang/IndexOutOfBoundsException", hts (.classLink RL 71 "java/lang/IndexOutOfBoundsException") (by decide +kernel), hn ("java/lang/IllegalArgumentException", "java/lang/IndexOutOfBoundsException") (by decide +kernel)⟩) (by decide) (by decide) (hts (.classLink RL 74 "java/lang/IllegalArgumentException") (by decide +kernel)) (va_Nw.use rfl (hs.2.2.2.1 ("java/lang/IllegalArgumentException", "java/lang/IllegalArgumentException") (by decide +kernel))) h1 h2 h3 ?_
      refine lv_astore (lv' := [(6, .ref q9), (0, .ref o), (1, .int 0), (2, .int x), (3, .int y), (4, .int z), (5, .int w)]) hx hb dL_act_299 hl (by decide) rfl (fun ls hl => ?_)
      refine lv_ldc (v := (-90000002)) hx hb hown (hts (.constant RL 76 (-90000002)) (by decide +kernel)) dL_act_301 ?_
      exact vx_ret (pr_i (v := (-90000002)) hx hb hr hlocks hw1 rfl ⟨Nat.le_of_ble_eq_true rfl, Nat.le_of_ble_eq_true rfl⟩ (Or.inr ⟨_, he, cE_a.symm⟩) dL_act_303)
    · rw [e9] at h3 he
      refine vx_catch hown [⟨0, 293, 294, 71⟩, ⟨0, 293, 299, 74⟩] ⟨0, 293, 304, 77⟩ [] (by rw [htab]; rfl) (fun z hz => by
              simp only [List.mem_cons, List.not_mem_nil, or_false] at hz
              rcases hz with rfl | rfl
              · exact Or.inr ⟨by decide, "java/lang/IndexOutOfBoundsException", hts (.classLink RL 71 "java/lang/IndexOutOfBoundsException") (by decide +kernel), hn ("java/lang/IllegalStateException", "java/lang/IndexOutOfBoundsException") (by decide +kernel)⟩
              · exact Or.inr ⟨by decide, "java/lang/IllegalArgumentException", hts (.classLink RL 74 "java/lang/IllegalArgumentException") (by decide +kernel), hn ("java/lang/IllegalStateException", "java/lang/IllegalArgumentException") (by decide +kernel)⟩) (by decide) (by decide) (hts (.classLink RL 77 "java/lang/IllegalStateException") (by decide +kernel)) (va_Nw.use rfl (hs.2.2.2.1 ("java/lang/IllegalStateException", "java/lang/IllegalStateException") (by decide +kernel))) h1 h2 h3 ?_
      refine lv_astore (lv' := [(6, .ref q9), (0, .ref o), (1, .int 0), (2, .int x), (3, .int y), (4, .int z), (5, .int w)]) hx hb dL_act_304 hl (by decide) rfl (fun ls hl => ?_)
      refine lv_ldc (v := (-90000003)) hx hb hown (hts (.constant RL 79 (-90000003)) (by decide +kernel)) dL_act_306 ?_
      exact vx_ret (pr_i (v := (-90000003)) hx hb hr hlocks hw1 rfl ⟨Nat.le_of_ble_eq_true rfl, Nat.le_of_ble_eq_true rfl⟩ (Or.inr ⟨_, he, cE_s.symm⟩) dL_act_308)
  · refine lv_goto (tgt := 293) hx hb dL_act_9 (by decide) ?_
    exact vx_ret (pr_i (v := r) hx hb hr hlocks hw rfl ⟨Nat.le_of_ble_eq_true rfl, Nat.le_of_ble_eq_true rfl⟩ (Or.inl hp) dL_act_293)

set_option maxHeartbeats 4000000 in
set_option maxRecDepth 100000 in
theorem act_setWeight (l : Launch) (g : GE) (L : List Nat) (f : Nat → va_E) {o : Nat} {fs : List Value} (hq0 : o ∈ L) (hf0 : f o = .inr (8, fs)) (x y z w : Int32) {D : List (String × Prop)} {ok : Int32 → PE → Prop} {bad : PE → Prop} (hc : Xi l yX6_setWeight wsX6_setWeight (rmH 2 4 24) g L f [.ref o, .int x, .int y, .int z] (fun r u => allD D ∧ ok r u) (fun E u => exL D E ∧ bad u) 4 24) (hD : ∀ q, q ∈ D → q.1 = IOX ∨ q.1 = IAX ∨ q.1 = ISX) : Ni l yL_act wsL_act (rmH 10 8 524) g L f [.ref o, .int 1, .int x, .int y, .int z, .int w] (AnP D ok bad) 8 524 := by
  intro sz
  refine vx_ofWH (cc := cL_act) (maxL := 7) (ret := some .int) (hh := [(0, 293, 294, 71), (0, 293, 299, 74), (0, 293, 304, 77)]) (by decide) rfl ?_
  intro p e s m args below meth c s₁ B hml hv
  obtain ⟨rfl, hv⟩ := hv
  have hx := B.exec
  have hb := B.bytes
  have hr := B.returns
  have hts := atoms_spec (ws := wsL_act) B.pre
  have hown : s.vm.findClass RL = some m.cls := findClass_of_methodNamed B.named
  have hlocks := B.notSynchronized
  have htab := vx_table (x := yL_act) B (hts (.codeWith yL_act cL_act 7 (some .int) [(0, 293, 294, 71), (0, 293, 299, 74), (0, 293, 304, 77)]) List.mem_cons_self)
  obtain ⟨⟨rfl, hw, hs⟩, hn⟩ := pn_begin hv
  generalize va_A (va_pl L f) s.heap.size = A at hw hs ⊢
  have CF := (⟨hx, hb, hml, hown, hts⟩ : CallFix p m c cL_act 7 s _ wsL_act RL)
  have hl := lv_entry ([.ref o, .int 1, .int x, .int y, .int z, .int w]) (n := 7) (Nat.le_of_ble_eq_true rfl)
  rw [lg_entry_eq]
  generalize (lg_sl ([.ref o, .int 1, .int x, .int y, .int z, .int w]) ++ List.replicate (7 - (lg_sl ([.ref o, .int 1, .int x, .int y, .int z, .int w])).length) Slot.unset).toArray = ls at hl ⊢
  have hl : lv_has ls 7 [(0, .ref o), (1, .int 1), (2, .int x), (3, .int y), (4, .int z), (5, .int w)] := hl
  refine lv_iload_n hx hb dL_act_0 rfl (lv_at hl 1 rfl) ?_
  refine lv_if_ne (tgt := 12) hx hb dL_act_1 (by decide) (fun _ => ?_) (fun h9 => absurd h9 (by decide))
  refine lv_iload_n hx hb dL_act_12 rfl (lv_at hl 1 rfl) ?_
  refine lv_iconst (v := 1) hx hb dL_act_13 (by decide) ?_
  refine lv_icmp_ne (tgt := 28) hx hb dL_act_14 (by decide) (fun h9 => absurd rfl h9) (fun _ => ?_)
  refine lv_aload_n hx hb dL_act_17 rfl (lv_at hl 0 rfl) ?_
  refine lv_iload_n hx hb dL_act_18 rfl (lv_at hl 2 rfl) ?_
  refine lv_iload_n hx hb dL_act_19 rfl (lv_at hl 3 rfl) ?_
  refine lv_iload hx hb dL_act_20 (lv_at hl 4 rfl) ?_
  refine px_ic hw (vx_runV (As := [.int x, .int y, .int z]) (rest := []) CF (hc _) (cwV 3 hts gL_act_X6_setWeight rfl rfl rfl (by decide +kernel) ⟨Nat.le_of_ble_eq_true rfl, Nat.le_of_ble_eq_true rfl⟩) (pm_preV hw hs (pm_recv hw hq0 hf0 rfl)) rfl rfl hl.1 rfl (lv_room (Nat.le_of_ble_eq_true rfl)) dL_act_22 ⟨Nat.le_of_ble_eq_true rfl, Nat.le_of_ble_eq_true rfl⟩) (fun E ce q9 L1 f1 H1 locs1 he hw1 h1 h2 h3 => ?_) (fun r L1 f1 H locs hp hw => ?_)
  · obtain ⟨q, hq, rfl⟩ := exL_mem _ he.1
    rcases hD q hq with e9 | e9 | e9
    · rw [e9] at h3 he
      refine vx_catch hown [] ⟨0, 293, 294, 71⟩ [⟨0, 293, 299, 74⟩, ⟨0, 293, 304, 77⟩] (by rw [htab]; rfl) (fun z hz => absurd hz List.not_mem_nil) (by decide) (by decide) (hts (.classLink RL 71 "java/lang/IndexOutOfBoundsException") (by decide +kernel)) (va_Nw.use rfl (hs.2.2.2.1 ("java/lang/IndexOutOfBoundsException", "java/lang/IndexOutOfBoundsException") (by decide +kernel))) h1 h2 h3 ?_
      refine lv_astore (lv' := [(6, .ref q9), (0, .ref o), (1, .int 1), (2, .int x), (3, .int y), (4, .int z), (5, .int w)]) hx hb dL_act_294 hl (by decide) rfl (fun ls hl => ?_)
      refine lv_ldc (v := (-90000001)) hx hb hown (hts (.constant RL 73 (-90000001)) (by decide +kernel)) dL_act_296 ?_
      exact vx_ret (pr_i (v := (-90000001)) hx hb hr hlocks hw1 rfl ⟨Nat.le_of_ble_eq_true rfl, Nat.le_of_ble_eq_true rfl⟩ (Or.inr ⟨_, he, cE_i.symm⟩) dL_act_298)
    · rw [e9] at h3 he
      refine vx_catch hown [⟨0, 293, 294, 71⟩] ⟨0, 293, 299, 74⟩ [⟨0, 293, 304, 77⟩] (by rw [htab]; rfl) (fun z hz => by
              simp only [List.mem_cons, List.not_mem_nil, or_false] at hz
              subst hz
              exact Or.inr ⟨by decide, "java/lang/IndexOutOfBoundsException", hts (.classLink RL 71 "java/lang/IndexOutOfBoundsException") (by decide +kernel), hn ("java/lang/IllegalArgumentException", "java/lang/IndexOutOfBoundsException") (by decide +kernel)⟩) (by decide) (by decide) (hts (.classLink RL 74 "java/lang/IllegalArgumentException") (by decide +kernel)) (va_Nw.use rfl (hs.2.2.2.1 ("java/lang/IllegalArgumentException", "java/lang/IllegalArgumentException") (by decide +kernel))) h1 h2 h3 ?_
      refine lv_astore (lv' := [(6, .ref q9), (0, .ref o), (1, .int 1), (2, .int x), (3, .int y), (4, .int z), (5, .int w)]) hx hb dL_act_299 hl (by decide) rfl (fun ls hl => ?_)
      refine lv_ldc (v := (-90000002)) hx hb hown (hts (.constant RL 76 (-90000002)) (by decide +kernel)) dL_act_301 ?_
      exact vx_ret (pr_i (v := (-90000002)) hx hb hr hlocks hw1 rfl ⟨Nat.le_of_ble_eq_true rfl, Nat.le_of_ble_eq_true rfl⟩ (Or.inr ⟨_, he, cE_a.symm⟩) dL_act_303)
    · rw [e9] at h3 he
      refine vx_catch hown [⟨0, 293, 294, 71⟩, ⟨0, 293, 299, 74⟩] ⟨0, 293, 304, 77⟩ [] (by rw [htab]; rfl) (fun z hz => by
              simp only [List.mem_cons, List.not_mem_nil, or_false] at hz
              rcases hz with rfl | rfl
              · exact Or.inr ⟨by decide, "java/lang/IndexOutOfBoundsException", hts (.classLink RL 71 "java/lang/IndexOutOfBoundsException") (by decide +kernel), hn ("java/lang/IllegalStateException", "java/lang/IndexOutOfBoundsException") (by decide +kernel)⟩
              · exact Or.inr ⟨by decide, "java/lang/IllegalArgumentException", hts (.classLink RL 74 "java/lang/IllegalArgumentException") (by decide +kernel), hn ("java/lang/IllegalStateException", "java/lang/IllegalArgumentException") (by decide +kernel)⟩) (by decide) (by decide) (hts (.classLink RL 77 "java/lang/IllegalStateException") (by decide +kernel)) (va_Nw.use rfl (hs.2.2.2.1 ("java/lang/IllegalStateException", "java/lang/IllegalStateException") (by decide +kernel))) h1 h2 h3 ?_
      refine lv_astore (lv' := [(6, .ref q9), (0, .ref o), (1, .int 1), (2, .int x), (3, .int y), (4, .int z), (5, .int w)]) hx hb dL_act_304 hl (by decide) rfl (fun ls hl => ?_)
      refine lv_ldc (v := (-90000003)) hx hb hown (hts (.constant RL 79 (-90000003)) (by decide +kernel)) dL_act_306 ?_
      exact vx_ret (pr_i (v := (-90000003)) hx hb hr hlocks hw1 rfl ⟨Nat.le_of_ble_eq_true rfl, Nat.le_of_ble_eq_true rfl⟩ (Or.inr ⟨_, he, cE_s.symm⟩) dL_act_308)
  · refine lv_goto (tgt := 293) hx hb dL_act_25 (by decide) ?_
    exact vx_ret (pr_i (v := r) hx hb hr hlocks hw rfl ⟨Nat.le_of_ble_eq_true rfl, Nat.le_of_ble_eq_true rfl⟩ (Or.inl hp) dL_act_293)

set_option maxHeartbeats 4000000 in
set_option maxRecDepth 100000 in
theorem act_pass (l : Launch) (g : GE) (L : List Nat) (f : Nat → va_E) {o : Nat} {fs : List Value} (hq0 : o ∈ L) (hf0 : f o = .inr (8, fs)) (x y z w : Int32) {D : List (String × Prop)} {ok : Int32 → PE → Prop} {bad : PE → Prop} (hc : Xi l yX6_pass wsX6_pass (rmH 1 1 6) g L f [.ref o, .int x] (fun r u => allD D ∧ ok r u) (fun E u => exL D E ∧ bad u) 1 6) (hD : ∀ q, q ∈ D → q.1 = IOX ∨ q.1 = IAX ∨ q.1 = ISX) : Ni l yL_act wsL_act (rmH 10 8 524) g L f [.ref o, .int 2, .int x, .int y, .int z, .int w] (AnP D ok bad) 8 524 := by
  intro sz
  refine vx_ofWH (cc := cL_act) (maxL := 7) (ret := some .int) (hh := [(0, 293, 294, 71), (0, 293, 299, 74), (0, 293, 304, 77)]) (by decide) rfl ?_
  intro p e s m args below meth c s₁ B hml hv
  obtain ⟨rfl, hv⟩ := hv
  have hx := B.exec
  have hb := B.bytes
  have hr := B.returns
  have hts := atoms_spec (ws := wsL_act) B.pre
  have hown : s.vm.findClass RL = some m.cls := findClass_of_methodNamed B.named
  have hlocks := B.notSynchronized
  have htab := vx_table (x := yL_act) B (hts (.codeWith yL_act cL_act 7 (some .int) [(0, 293, 294, 71), (0, 293, 299, 74), (0, 293, 304, 77)]) List.mem_cons_self)
  obtain ⟨⟨rfl, hw, hs⟩, hn⟩ := pn_begin hv
  generalize va_A (va_pl L f) s.heap.size = A at hw hs ⊢
  have CF := (⟨hx, hb, hml, hown, hts⟩ : CallFix p m c cL_act 7 s _ wsL_act RL)
  have hl := lv_entry ([.ref o, .int 2, .int x, .int y, .int z, .int w]) (n := 7) (Nat.le_of_ble_eq_true rfl)
  rw [lg_entry_eq]
  generalize (lg_sl ([.ref o, .int 2, .int x, .int y, .int z, .int w]) ++ List.replicate (7 - (lg_sl ([.ref o, .int 2, .int x, .int y, .int z, .int w])).length) Slot.unset).toArray = ls at hl ⊢
  have hl : lv_has ls 7 [(0, .ref o), (1, .int 2), (2, .int x), (3, .int y), (4, .int z), (5, .int w)] := hl
  refine lv_iload_n hx hb dL_act_0 rfl (lv_at hl 1 rfl) ?_
  refine lv_if_ne (tgt := 12) hx hb dL_act_1 (by decide) (fun _ => ?_) (fun h9 => absurd h9 (by decide))
  refine lv_iload_n hx hb dL_act_12 rfl (lv_at hl 1 rfl) ?_
  refine lv_iconst (v := 1) hx hb dL_act_13 (by decide) ?_
  refine lv_icmp_ne (tgt := 28) hx hb dL_act_14 (by decide) (fun _ => ?_) (fun h9 => absurd h9 (by decide))
  refine lv_iload_n hx hb dL_act_28 rfl (lv_at hl 1 rfl) ?_
  refine lv_iconst (v := 2) hx hb dL_act_29 (by decide) ?_
  refine lv_icmp_ne (tgt := 41) hx hb dL_act_30 (by decide) (fun h9 => absurd rfl h9) (fun _ => ?_)
  refine lv_aload_n hx hb dL_act_33 rfl (lv_at hl 0 rfl) ?_
  refine lv_iload_n hx hb dL_act_34 rfl (lv_at hl 2 rfl) ?_
  refine px_ic hw (vx_runV (As := [.int x]) (rest := []) CF (hc _) (cwV 1 hts gL_act_X6_pass rfl rfl rfl (by decide +kernel) ⟨Nat.le_of_ble_eq_true rfl, Nat.le_of_ble_eq_true rfl⟩) (pm_preV hw hs (pm_recv hw hq0 hf0 rfl)) rfl rfl hl.1 rfl (lv_room (Nat.le_of_ble_eq_true rfl)) dL_act_35 ⟨Nat.le_of_ble_eq_true rfl, Nat.le_of_ble_eq_true rfl⟩) (fun E ce q9 L1 f1 H1 locs1 he hw1 h1 h2 h3 => ?_) (fun r L1 f1 H locs hp hw => ?_)
  · obtain ⟨q, hq, rfl⟩ := exL_mem _ he.1
    rcases hD q hq with e9 | e9 | e9
    · rw [e9] at h3 he
      refine vx_catch hown [] ⟨0, 293, 294, 71⟩ [⟨0, 293, 299, 74⟩, ⟨0, 293, 304, 77⟩] (by rw [htab]; rfl) (fun z hz => absurd hz List.not_mem_nil) (by decide) (by decide) (hts (.classLink RL 71 "java/lang/IndexOutOfBoundsException") (by decide +kernel)) (va_Nw.use rfl (hs.2.2.2.1 ("java/lang/IndexOutOfBoundsException", "java/lang/IndexOutOfBoundsException") (by decide +kernel))) h1 h2 h3 ?_
      refine lv_astore (lv' := [(6, .ref q9), (0, .ref o), (1, .int 2), (2, .int x), (3, .int y), (4, .int z), (5, .int w)]) hx hb dL_act_294 hl (by decide) rfl (fun ls hl => ?_)
      refine lv_ldc (v := (-90000001)) hx hb hown (hts (.constant RL 73 (-90000001)) (by decide +kernel)) dL_act_296 ?_
      exact vx_ret (pr_i (v := (-90000001)) hx hb hr hlocks hw1 rfl ⟨Nat.le_of_ble_eq_true rfl, Nat.le_of_ble_eq_true rfl⟩ (Or.inr ⟨_, he, cE_i.symm⟩) dL_act_298)
    · rw [e9] at h3 he
      refine vx_catch hown [⟨0, 293, 294, 71⟩] ⟨0, 293, 299, 74⟩ [⟨0, 293, 304, 77⟩] (by rw [htab]; rfl) (fun z hz => by
              simp only [List.mem_cons, List.not_mem_nil, or_false] at hz
              subst hz
              exact Or.inr ⟨by decide, "java/lang/IndexOutOfBoundsException", hts (.classLink RL 71 "java/lang/IndexOutOfBoundsException") (by decide +kernel), hn ("java/lang/IllegalArgumentException", "java/lang/IndexOutOfBoundsException") (by decide +kernel)⟩) (by decide) (by decide) (hts (.classLink RL 74 "java/lang/IllegalArgumentException") (by decide +kernel)) (va_Nw.use rfl (hs.2.2.2.1 ("java/lang/IllegalArgumentException", "java/lang/IllegalArgumentException") (by decide +kernel))) h1 h2 h3 ?_
      refine lv_astore (lv' := [(6, .ref q9), (0, .ref o), (1, .int 2), (2, .int x), (3, .int y), (4, .int z), (5, .int w)]) hx hb dL_act_299 hl (by decide) rfl (fun ls hl => ?_)
      refine lv_ldc (v := (-90000002)) hx hb hown (hts (.constant RL 76 (-90000002)) (by decide +kernel)) dL_act_301 ?_
      exact vx_ret (pr_i (v := (-90000002)) hx hb hr hlocks hw1 rfl ⟨Nat.le_of_ble_eq_true rfl, Nat.le_of_ble_eq_true rfl⟩ (Or.inr ⟨_, he, cE_a.symm⟩) dL_act_303)
    · rw [e9] at h3 he
      refine vx_catch hown [⟨0, 293, 294, 71⟩, ⟨0, 293, 299, 74⟩] ⟨0, 293, 304, 77⟩ [] (by rw [htab]; rfl) (fun z hz => by
              simp only [List.mem_cons, List.not_mem_nil, or_false] at hz
              rcases hz with rfl | rfl
              · exact Or.inr ⟨by decide, "java/lang/IndexOutOfBoundsException", hts (.classLink RL 71 "java/lang/IndexOutOfBoundsException") (by decide +kernel), hn ("java/lang/IllegalStateException", "java/lang/IndexOutOfBoundsException") (by decide +kernel)⟩
              · exact Or.inr ⟨by decide, "java/lang/IllegalArgumentException", hts (.classLink RL 74 "java/lang/IllegalArgumentException") (by decide +kernel), hn ("java/lang/IllegalStateException", "java/lang/IllegalArgumentException") (by decide +kernel)⟩) (by decide) (by decide) (hts (.classLink RL 77 "java/lang/IllegalStateException") (by decide +kernel)) (va_Nw.use rfl (hs.2.2.2.1 ("java/lang/IllegalStateException", "java/lang/IllegalStateException") (by decide +kernel))) h1 h2 h3 ?_
      refine lv_astore (lv' := [(6, .ref q9), (0, .ref o), (1, .int 2), (2, .int x), (3, .int y), (4, .int z), (5, .int w)]) hx hb dL_act_304 hl (by decide) rfl (fun ls hl => ?_)
      refine lv_ldc (v := (-90000003)) hx hb hown (hts (.constant RL 79 (-90000003)) (by decide +kernel)) dL_act_306 ?_
      exact vx_ret (pr_i (v := (-90000003)) hx hb hr hlocks hw1 rfl ⟨Nat.le_of_ble_eq_true rfl, Nat.le_of_ble_eq_true rfl⟩ (Or.inr ⟨_, he, cE_s.symm⟩) dL_act_308)
  · refine lv_goto (tgt := 293) hx hb dL_act_38 (by decide) ?_
    exact vx_ret (pr_i (v := r) hx hb hr hlocks hw rfl ⟨Nat.le_of_ble_eq_true rfl, Nat.le_of_ble_eq_true rfl⟩ (Or.inl hp) dL_act_293)

set_option maxHeartbeats 4000000 in
set_option maxRecDepth 100000 in
theorem act_change (l : Launch) (g : GE) (L : List Nat) (f : Nat → va_E) {o : Nat} {fs : List Value} (hq0 : o ∈ L) (hf0 : f o = .inr (8, fs)) (x y z w : Int32) {D : List (String × Prop)} {ok : Int32 → PE → Prop} {bad : PE → Prop} (hc : Xi l yX6_change wsX6_change (rmH 9 8 524) g L f [.ref o, .int x, .int y, .int z, .int w] (fun r u => allD D ∧ ok r u) (fun E u => exL D E ∧ bad u) 8 524) (hD : ∀ q, q ∈ D → q.1 = IOX ∨ q.1 = IAX ∨ q.1 = ISX) : Ni l yL_act wsL_act (rmH 10 8 524) g L f [.ref o, .int 3, .int x, .int y, .int z, .int w] (AnP D ok bad) 8 524 := by
  intro sz
  refine vx_ofWH (cc := cL_act) (maxL := 7) (ret := some .int) (hh := [(0, 293, 294, 71), (0, 293, 299, 74), (0, 293, 304, 77)]) (by decide) rfl ?_
  intro p e s m args below meth c s₁ B hml hv
  obtain ⟨rfl, hv⟩ := hv
  have hx := B.exec
  have hb := B.bytes
  have hr := B.returns
  have hts := atoms_spec (ws := wsL_act) B.pre
  have hown : s.vm.findClass RL = some m.cls := findClass_of_methodNamed B.named
  have hlocks := B.notSynchronized
  have htab := vx_table (x := yL_act) B (hts (.codeWith yL_act cL_act 7 (some .int) [(0, 293, 294, 71), (0, 293, 299, 74), (0, 293, 304, 77)]) List.mem_cons_self)
  obtain ⟨⟨rfl, hw, hs⟩, hn⟩ := pn_begin hv
  generalize va_A (va_pl L f) s.heap.size = A at hw hs ⊢
  have CF := (⟨hx, hb, hml, hown, hts⟩ : CallFix p m c cL_act 7 s _ wsL_act RL)
  have hl := lv_entry ([.ref o, .int 3, .int x, .int y, .int z, .int w]) (n := 7) (Nat.le_of_ble_eq_true rfl)
  rw [lg_entry_eq]
  generalize (lg_sl ([.ref o, .int 3, .int x, .int y, .int z, .int w]) ++ List.replicate (7 - (lg_sl ([.ref o, .int 3, .int x, .int y, .int z, .int w])).length) Slot.unset).toArray = ls at hl ⊢
  have hl : lv_has ls 7 [(0, .ref o), (1, .int 3), (2, .int x), (3, .int y), (4, .int z), (5, .int w)] := hl
  refine lv_iload_n hx hb dL_act_0 rfl (lv_at hl 1 rfl) ?_
  refine lv_if_ne (tgt := 12) hx hb dL_act_1 (by decide) (fun _ => ?_) (fun h9 => absurd h9 (by decide))
  refine lv_iload_n hx hb dL_act_12 rfl (lv_at hl 1 rfl) ?_
  refine lv_iconst (v := 1) hx hb dL_act_13 (by decide) ?_
  refine lv_icmp_ne (tgt := 28) hx hb dL_act_14 (by decide) (fun _ => ?_) (fun h9 => absurd h9 (by decide))
  refine lv_iload_n hx hb dL_act_28 rfl (lv_at hl 1 rfl) ?_
  refine lv_iconst (v := 2) hx hb dL_act_29 (by decide) ?_
  refine lv_icmp_ne (tgt := 41) hx hb dL_act_30 (by decide) (fun _ => ?_) (fun h9 => absurd h9 (by decide))
  refine lv_iload_n hx hb dL_act_41 rfl (lv_at hl 1 rfl) ?_
  refine lv_iconst (v := 3) hx hb dL_act_42 (by decide) ?_
  refine lv_icmp_ne (tgt := 59) hx hb dL_act_43 (by decide) (fun h9 => absurd rfl h9) (fun _ => ?_)
  refine lv_aload_n hx hb dL_act_46 rfl (lv_at hl 0 rfl) ?_
  refine lv_iload_n hx hb dL_act_47 rfl (lv_at hl 2 rfl) ?_
  refine lv_iload_n hx hb dL_act_48 rfl (lv_at hl 3 rfl) ?_
  refine lv_iload hx hb dL_act_49 (lv_at hl 4 rfl) ?_
  refine lv_iload hx hb dL_act_51 (lv_at hl 5 rfl) ?_
  refine px_ic hw (vx_runV (As := [.int x, .int y, .int z, .int w]) (rest := []) CF (hc _) (cwV 4 hts gL_act_X6_change rfl rfl rfl (by decide +kernel) ⟨Nat.le_of_ble_eq_true rfl, Nat.le_of_ble_eq_true rfl⟩) (pm_preV hw hs (pm_recv hw hq0 hf0 rfl)) rfl rfl hl.1 rfl (lv_room (Nat.le_of_ble_eq_true rfl)) dL_act_53 ⟨Nat.le_of_ble_eq_true rfl, Nat.le_of_ble_eq_true rfl⟩) (fun E ce q9 L1 f1 H1 locs1 he hw1 h1 h2 h3 => ?_) (fun r L1 f1 H locs hp hw => ?_)
  · obtain ⟨q, hq, rfl⟩ := exL_mem _ he.1
    rcases hD q hq with e9 | e9 | e9
    · rw [e9] at h3 he
      refine vx_catch hown [] ⟨0, 293, 294, 71⟩ [⟨0, 293, 299, 74⟩, ⟨0, 293, 304, 77⟩] (by rw [htab]; rfl) (fun z hz => absurd hz List.not_mem_nil) (by decide) (by decide) (hts (.classLink RL 71 "java/lang/IndexOutOfBoundsException") (by decide +kernel)) (va_Nw.use rfl (hs.2.2.2.1 ("java/lang/IndexOutOfBoundsException", "java/lang/IndexOutOfBoundsException") (by decide +kernel))) h1 h2 h3 ?_
      refine lv_astore (lv' := [(6, .ref q9), (0, .ref o), (1, .int 3), (2, .int x), (3, .int y), (4, .int z), (5, .int w)]) hx hb dL_act_294 hl (by decide) rfl (fun ls hl => ?_)
      refine lv_ldc (v := (-90000001)) hx hb hown (hts (.constant RL 73 (-90000001)) (by decide +kernel)) dL_act_296 ?_
      exact vx_ret (pr_i (v := (-90000001)) hx hb hr hlocks hw1 rfl ⟨Nat.le_of_ble_eq_true rfl, Nat.le_of_ble_eq_true rfl⟩ (Or.inr ⟨_, he, cE_i.symm⟩) dL_act_298)
    · rw [e9] at h3 he
      refine vx_catch hown [⟨0, 293, 294, 71⟩] ⟨0, 293, 299, 74⟩ [⟨0, 293, 304, 77⟩] (by rw [htab]; rfl) (fun z hz => by
              simp only [List.mem_cons, List.not_mem_nil, or_false] at hz
              subst hz
              exact Or.inr ⟨by decide, "java/lang/IndexOutOfBoundsException", hts (.classLink RL 71 "java/lang/IndexOutOfBoundsException") (by decide +kernel), hn ("java/lang/IllegalArgumentException", "java/lang/IndexOutOfBoundsException") (by decide +kernel)⟩) (by decide) (by decide) (hts (.classLink RL 74 "java/lang/IllegalArgumentException") (by decide +kernel)) (va_Nw.use rfl (hs.2.2.2.1 ("java/lang/IllegalArgumentException", "java/lang/IllegalArgumentException") (by decide +kernel))) h1 h2 h3 ?_
      refine lv_astore (lv' := [(6, .ref q9), (0, .ref o), (1, .int 3), (2, .int x), (3, .int y), (4, .int z), (5, .int w)]) hx hb dL_act_299 hl (by decide) rfl (fun ls hl => ?_)
      refine lv_ldc (v := (-90000002)) hx hb hown (hts (.constant RL 76 (-90000002)) (by decide +kernel)) dL_act_301 ?_
      exact vx_ret (pr_i (v := (-90000002)) hx hb hr hlocks hw1 rfl ⟨Nat.le_of_ble_eq_true rfl, Nat.le_of_ble_eq_true rfl⟩ (Or.inr ⟨_, he, cE_a.symm⟩) dL_act_303)
    · rw [e9] at h3 he
      refine vx_catch hown [⟨0, 293, 294, 71⟩, ⟨0, 293, 299, 74⟩] ⟨0, 293, 304, 77⟩ [] (by rw [htab]; rfl) (fun z hz => by
              simp only [List.mem_cons, List.not_mem_nil, or_false] at hz
              rcases hz with rfl | rfl
              · exact Or.inr ⟨by decide, "java/lang/IndexOutOfBoundsException", hts (.classLink RL 71 "java/lang/IndexOutOfBoundsException") (by decide +kernel), hn ("java/lang/IllegalStateException", "java/lang/IndexOutOfBoundsException") (by decide +kernel)⟩
              · exact Or.inr ⟨by decide, "java/lang/IllegalArgumentException", hts (.classLink RL 74 "java/lang/IllegalArgumentException") (by decide +kernel), hn ("java/lang/IllegalStateException", "java/lang/IllegalArgumentException") (by decide +kernel)⟩) (by decide) (by decide) (hts (.classLink RL 77 "java/lang/IllegalStateException") (by decide +kernel)) (va_Nw.use rfl (hs.2.2.2.1 ("java/lang/IllegalStateException", "java/lang/IllegalStateException") (by decide +kernel))) h1 h2 h3 ?_
      refine lv_astore (lv' := [(6, .ref q9), (0, .ref o), (1, .int 3), (2, .int x), (3, .int y), (4, .int z), (5, .int w)]) hx hb dL_act_304 hl (by decide) rfl (fun ls hl => ?_)
      refine lv_ldc (v := (-90000003)) hx hb hown (hts (.constant RL 79 (-90000003)) (by decide +kernel)) dL_act_306 ?_
      exact vx_ret (pr_i (v := (-90000003)) hx hb hr hlocks hw1 rfl ⟨Nat.le_of_ble_eq_true rfl, Nat.le_of_ble_eq_true rfl⟩ (Or.inr ⟨_, he, cE_s.symm⟩) dL_act_308)
  · refine lv_goto (tgt := 293) hx hb dL_act_56 (by decide) ?_
    exact vx_ret (pr_i (v := r) hx hb hr hlocks hw rfl ⟨Nat.le_of_ble_eq_true rfl, Nat.le_of_ble_eq_true rfl⟩ (Or.inl hp) dL_act_293)

set_option maxHeartbeats 4000000 in
set_option maxRecDepth 100000 in
theorem act_add (l : Launch) (g : GE) (L : List Nat) (f : Nat → va_E) {o : Nat} {fs : List Value} (hq0 : o ∈ L) (hf0 : f o = .inr (8, fs)) (x y z w : Int32) {D : List (String × Prop)} {ok : Int32 → PE → Prop} {bad : PE → Prop} (hc : Xi l yX6_add wsX6_add (rmH 9 8 524) g L f [.ref o, .int x, .int y, .int z, .int w] (fun r u => allD D ∧ ok r u) (fun E u => exL D E ∧ bad u) 8 524) (hD : ∀ q, q ∈ D → q.1 = IOX ∨ q.1 = IAX ∨ q.1 = ISX) : Ni l yL_act wsL_act (rmH 10 8 524) g L f [.ref o, .int 4, .int x, .int y, .int z, .int w] (AnP D ok bad) 8 524 := by
  intro sz
  refine vx_ofWH (cc := cL_act) (maxL := 7) (ret := some .int) (hh := [(0, 293, 294, 71), (0, 293, 299, 74), (0, 293, 304, 77)]) (by decide) rfl ?_
  intro p e s m args below meth c s₁ B hml hv
  obtain ⟨rfl, hv⟩ := hv
  have hx := B.exec
  have hb := B.bytes
  have hr := B.returns
  have hts := atoms_spec (ws := wsL_act) B.pre
  have hown : s.vm.findClass RL = some m.cls := findClass_of_methodNamed B.named
  have hlocks := B.notSynchronized
  have htab := vx_table (x := yL_act) B (hts (.codeWith yL_act cL_act 7 (some .int) [(0, 293, 294, 71), (0, 293, 299, 74), (0, 293, 304, 77)]) List.mem_cons_self)
  obtain ⟨⟨rfl, hw, hs⟩, hn⟩ := pn_begin hv
  generalize va_A (va_pl L f) s.heap.size = A at hw hs ⊢
  have CF := (⟨hx, hb, hml, hown, hts⟩ : CallFix p m c cL_act 7 s _ wsL_act RL)
  have hl := lv_entry ([.ref o, .int 4, .int x, .int y, .int z, .int w]) (n := 7) (Nat.le_of_ble_eq_true rfl)
  rw [lg_entry_eq]
  generalize (lg_sl ([.ref o, .int 4, .int x, .int y, .int z, .int w]) ++ List.replicate (7 - (lg_sl ([.ref o, .int 4, .int x, .int y, .int z, .int w])).length) Slot.unset).toArray = ls at hl ⊢
  have hl : lv_has ls 7 [(0, .ref o), (1, .int 4), (2, .int x), (3, .int y), (4, .int z), (5, .int w)] := hl
  refine lv_iload_n hx hb dL_act_0 rfl (lv_at hl 1 rfl) ?_
  refine lv_if_ne (tgt := 12) hx hb dL_act_1 (by decide) (fun _ => ?_) (fun h9 => absurd h9 (by decide))
  refine lv_iload_n hx hb dL_act_12 rfl (lv_at hl 1 rfl) ?_
  refine lv_iconst (v := 1) hx hb dL_act_13 (by decide) ?_
  refine lv_icmp_ne (tgt := 28) hx hb dL_act_14 (by decide) (fun _ => ?_) (fun h9 => absurd h9 (by decide))
  refine lv_iload_n hx hb dL_act_28 rfl (lv_at hl 1 rfl) ?_
  refine lv_iconst (v := 2) hx hb dL_act_29 (by decide) ?_
  refine lv_icmp_ne (tgt := 41) hx hb dL_act_30 (by decide) (fun _ => ?_) (fun h9 => absurd h9 (by decide))
  refine lv_iload_n hx hb dL_act_41 rfl (lv_at hl 1 rfl) ?_
  refine lv_iconst (v := 3) hx hb dL_act_42 (by decide) ?_
  refine lv_icmp_ne (tgt := 59) hx hb dL_act_43 (by decide) (fun _ => ?_) (fun h9 => absurd h9 (by decide))
  refine lv_iload_n hx hb dL_act_59 rfl (lv_at hl 1 rfl) ?_
  refine lv_iconst (v := 4) hx hb dL_act_60 (by decide) ?_
  refine lv_icmp_ne (tgt := 77) hx hb dL_act_61 (by decide) (fun h9 => absurd rfl h9) (fun _ => ?_)
  refine lv_aload_n hx hb dL_act_64 rfl (lv_at hl 0 rfl) ?_
  refine lv_iload_n hx hb dL_act_65 rfl (lv_at hl 2 rfl) ?_
  refine lv_iload_n hx hb dL_act_66 rfl (lv_at hl 3 rfl) ?_
  refine lv_iload hx hb dL_act_67 (lv_at hl 4 rfl) ?_
  refine lv_iload hx hb dL_act_69 (lv_at hl 5 rfl) ?_
  refine px_ic hw (vx_runV (As := [.int x, .int y, .int z, .int w]) (rest := []) CF (hc _) (cwV 4 hts gL_act_X6_add rfl rfl rfl (by decide +kernel) ⟨Nat.le_of_ble_eq_true rfl, Nat.le_of_ble_eq_true rfl⟩) (pm_preV hw hs (pm_recv hw hq0 hf0 rfl)) rfl rfl hl.1 rfl (lv_room (Nat.le_of_ble_eq_true rfl)) dL_act_71 ⟨Nat.le_of_ble_eq_true rfl, Nat.le_of_ble_eq_true rfl⟩) (fun E ce q9 L1 f1 H1 locs1 he hw1 h1 h2 h3 => ?_) (fun r L1 f1 H locs hp hw => ?_)
  · obtain ⟨q, hq, rfl⟩ := exL_mem _ he.1
    rcases hD q hq with e9 | e9 | e9
    · rw [e9] at h3 he
      refine vx_catch hown [] ⟨0, 293, 294, 71⟩ [⟨0, 293, 299, 74⟩, ⟨0, 293, 304, 77⟩] (by rw [htab]; rfl) (fun z hz => absurd hz List.not_mem_nil) (by decide) (by decide) (hts (.classLink RL 71 "java/lang/IndexOutOfBoundsException") (by decide +kernel)) (va_Nw.use rfl (hs.2.2.2.1 ("java/lang/IndexOutOfBoundsException", "java/lang/IndexOutOfBoundsException") (by decide +kernel))) h1 h2 h3 ?_
      refine lv_astore (lv' := [(6, .ref q9), (0, .ref o), (1, .int 4), (2, .int x), (3, .int y), (4, .int z), (5, .int w)]) hx hb dL_act_294 hl (by decide) rfl (fun ls hl => ?_)
      refine lv_ldc (v := (-90000001)) hx hb hown (hts (.constant RL 73 (-90000001)) (by decide +kernel)) dL_act_296 ?_
      exact vx_ret (pr_i (v := (-90000001)) hx hb hr hlocks hw1 rfl ⟨Nat.le_of_ble_eq_true rfl, Nat.le_of_ble_eq_true rfl⟩ (Or.inr ⟨_, he, cE_i.symm⟩) dL_act_298)
    · rw [e9] at h3 he
      refine vx_catch hown [⟨0, 293, 294, 71⟩] ⟨0, 293, 299, 74⟩ [⟨0, 293, 304, 77⟩] (by rw [htab]; rfl) (fun z hz => by
              simp only [List.mem_cons, List.not_mem_nil, or_false] at hz
              subst hz
              exact Or.inr ⟨by decide, "java/lang/IndexOutOfBoundsException", hts (.classLink RL 71 "java/lang/IndexOutOfBoundsException") (by decide +kernel), hn ("java/lang/IllegalArgumentException", "java/lang/IndexOutOfBoundsException") (by decide +kernel)⟩) (by decide) (by decide) (hts (.classLink RL 74 "java/lang/IllegalArgumentException") (by decide +kernel)) (va_Nw.use rfl (hs.2.2.2.1 ("java/lang/IllegalArgumentException", "java/lang/IllegalArgumentException") (by decide +kernel))) h1 h2 h3 ?_
      refine lv_astore (lv' := [(6, .ref q9), (0, .ref o), (1, .int 4), (2, .int x), (3, .int y), (4, .int z), (5, .int w)]) hx hb dL_act_299 hl (by decide) rfl (fun ls hl => ?_)
      refine lv_ldc (v := (-90000002)) hx hb hown (hts (.constant RL 76 (-90000002)) (by decide +kernel)) dL_act_301 ?_
      exact vx_ret (pr_i (v := (-90000002)) hx hb hr hlocks hw1 rfl ⟨Nat.le_of_ble_eq_true rfl, Nat.le_of_ble_eq_true rfl⟩ (Or.inr ⟨_, he, cE_a.symm⟩) dL_act_303)
    · rw [e9] at h3 he
      refine vx_catch hown [⟨0, 293, 294, 71⟩, ⟨0, 293, 299, 74⟩] ⟨0, 293, 304, 77⟩ [] (by rw [htab]; rfl) (fun z hz => by
              simp only [List.mem_cons, List.not_mem_nil, or_false] at hz
              rcases hz with rfl | rfl
              · exact Or.inr ⟨by decide, "java/lang/IndexOutOfBoundsException", hts (.classLink RL 71 "java/lang/IndexOutOfBoundsException") (by decide +kernel), hn ("java/lang/IllegalStateException", "java/lang/IndexOutOfBoundsException") (by decide +kernel)⟩
              · exact Or.inr ⟨by decide, "java/lang/IllegalArgumentException", hts (.classLink RL 74 "java/lang/IllegalArgumentException") (by decide +kernel), hn ("java/lang/IllegalStateException", "java/lang/IllegalArgumentException") (by decide +kernel)⟩) (by decide) (by decide) (hts (.classLink RL 77 "java/lang/IllegalStateException") (by decide +kernel)) (va_Nw.use rfl (hs.2.2.2.1 ("java/lang/IllegalStateException", "java/lang/IllegalStateException") (by decide +kernel))) h1 h2 h3 ?_
      refine lv_astore (lv' := [(6, .ref q9), (0, .ref o), (1, .int 4), (2, .int x), (3, .int y), (4, .int z), (5, .int w)]) hx hb dL_act_304 hl (by decide) rfl (fun ls hl => ?_)
      refine lv_ldc (v := (-90000003)) hx hb hown (hts (.constant RL 79 (-90000003)) (by decide +kernel)) dL_act_306 ?_
      exact vx_ret (pr_i (v := (-90000003)) hx hb hr hlocks hw1 rfl ⟨Nat.le_of_ble_eq_true rfl, Nat.le_of_ble_eq_true rfl⟩ (Or.inr ⟨_, he, cE_s.symm⟩) dL_act_308)
  · refine lv_goto (tgt := 293) hx hb dL_act_74 (by decide) ?_
    exact vx_ret (pr_i (v := r) hx hb hr hlocks hw rfl ⟨Nat.le_of_ble_eq_true rfl, Nat.le_of_ble_eq_true rfl⟩ (Or.inl hp) dL_act_293)

set_option maxHeartbeats 4000000 in
set_option maxRecDepth 100000 in
theorem act_cancel (l : Launch) (g : GE) (L : List Nat) (f : Nat → va_E) {o : Nat} {fs : List Value} (hq0 : o ∈ L) (hf0 : f o = .inr (8, fs)) (x y z w : Int32) {D : List (String × Prop)} {ok : Int32 → PE → Prop} {bad : PE → Prop} (hc : Xi l yX6_cancel wsX6_cancel (rmH 9 6 512) g L f [.ref o, .int x, .int y] (fun r u => allD D ∧ ok r u) (fun E u => exL D E ∧ bad u) 6 512) (hD : ∀ q, q ∈ D → q.1 = IOX ∨ q.1 = IAX ∨ q.1 = ISX) : Ni l yL_act wsL_act (rmH 10 8 524) g L f [.ref o, .int 5, .int x, .int y, .int z, .int w] (AnP D ok bad) 8 524 := by
  intro sz
  refine vx_ofWH (cc := cL_act) (maxL := 7) (ret := some .int) (hh := [(0, 293, 294, 71), (0, 293, 299, 74), (0, 293, 304, 77)]) (by decide) rfl ?_
  intro p e s m args below meth c s₁ B hml hv
  obtain ⟨rfl, hv⟩ := hv
  have hx := B.exec
  have hb := B.bytes
  have hr := B.returns
  have hts := atoms_spec (ws := wsL_act) B.pre
  have hown : s.vm.findClass RL = some m.cls := findClass_of_methodNamed B.named
  have hlocks := B.notSynchronized
  have htab := vx_table (x := yL_act) B (hts (.codeWith yL_act cL_act 7 (some .int) [(0, 293, 294, 71), (0, 293, 299, 74), (0, 293, 304, 77)]) List.mem_cons_self)
  obtain ⟨⟨rfl, hw, hs⟩, hn⟩ := pn_begin hv
  generalize va_A (va_pl L f) s.heap.size = A at hw hs ⊢
  have CF := (⟨hx, hb, hml, hown, hts⟩ : CallFix p m c cL_act 7 s _ wsL_act RL)
  have hl := lv_entry ([.ref o, .int 5, .int x, .int y, .int z, .int w]) (n := 7) (Nat.le_of_ble_eq_true rfl)
  rw [lg_entry_eq]
  generalize (lg_sl ([.ref o, .int 5, .int x, .int y, .int z, .int w]) ++ List.replicate (7 - (lg_sl ([.ref o, .int 5, .int x, .int y, .int z, .int w])).length) Slot.unset).toArray = ls at hl ⊢
  have hl : lv_has ls 7 [(0, .ref o), (1, .int 5), (2, .int x), (3, .int y), (4, .int z), (5, .int w)] := hl
  refine lv_iload_n hx hb dL_act_0 rfl (lv_at hl 1 rfl) ?_
  refine lv_if_ne (tgt := 12) hx hb dL_act_1 (by decide) (fun _ => ?_) (fun h9 => absurd h9 (by decide))
  refine lv_iload_n hx hb dL_act_12 rfl (lv_at hl 1 rfl) ?_
  refine lv_iconst (v := 1) hx hb dL_act_13 (by decide) ?_
  refine lv_icmp_ne (tgt := 28) hx hb dL_act_14 (by decide) (fun _ => ?_) (fun h9 => absurd h9 (by decide))
  refine lv_iload_n hx hb dL_act_28 rfl (lv_at hl 1 rfl) ?_
  refine lv_iconst (v := 2) hx hb dL_act_29 (by decide) ?_
  refine lv_icmp_ne (tgt := 41) hx hb dL_act_30 (by decide) (fun _ => ?_) (fun h9 => absurd h9 (by decide))
  refine lv_iload_n hx hb dL_act_41 rfl (lv_at hl 1 rfl) ?_
  refine lv_iconst (v := 3) hx hb dL_act_42 (by decide) ?_
  refine lv_icmp_ne (tgt := 59) hx hb dL_act_43 (by decide) (fun _ => ?_) (fun h9 => absurd h9 (by decide))
  refine lv_iload_n hx hb dL_act_59 rfl (lv_at hl 1 rfl) ?_
  refine lv_iconst (v := 4) hx hb dL_act_60 (by decide) ?_
  refine lv_icmp_ne (tgt := 77) hx hb dL_act_61 (by decide) (fun _ => ?_) (fun h9 => absurd h9 (by decide))
  refine lv_iload_n hx hb dL_act_77 rfl (lv_at hl 1 rfl) ?_
  refine lv_iconst (v := 5) hx hb dL_act_78 (by decide) ?_
  refine lv_icmp_ne (tgt := 91) hx hb dL_act_79 (by decide) (fun h9 => absurd rfl h9) (fun _ => ?_)
  refine lv_aload_n hx hb dL_act_82 rfl (lv_at hl 0 rfl) ?_
  refine lv_iload_n hx hb dL_act_83 rfl (lv_at hl 2 rfl) ?_
  refine lv_iload_n hx hb dL_act_84 rfl (lv_at hl 3 rfl) ?_
  refine px_ic hw (vx_runV (As := [.int x, .int y]) (rest := []) CF (hc _) (cwV 2 hts gL_act_X6_cancel rfl rfl rfl (by decide +kernel) ⟨Nat.le_of_ble_eq_true rfl, Nat.le_of_ble_eq_true rfl⟩) (pm_preV hw hs (pm_recv hw hq0 hf0 rfl)) rfl rfl hl.1 rfl (lv_room (Nat.le_of_ble_eq_true rfl)) dL_act_85 ⟨Nat.le_of_ble_eq_true rfl, Nat.le_of_ble_eq_true rfl⟩) (fun E ce q9 L1 f1 H1 locs1 he hw1 h1 h2 h3 => ?_) (fun r L1 f1 H locs hp hw => ?_)
  · obtain ⟨q, hq, rfl⟩ := exL_mem _ he.1
    rcases hD q hq with e9 | e9 | e9
    · rw [e9] at h3 he
      refine vx_catch hown [] ⟨0, 293, 294, 71⟩ [⟨0, 293, 299, 74⟩, ⟨0, 293, 304, 77⟩] (by rw [htab]; rfl) (fun z hz => absurd hz List.not_mem_nil) (by decide) (by decide) (hts (.classLink RL 71 "java/lang/IndexOutOfBoundsException") (by decide +kernel)) (va_Nw.use rfl (hs.2.2.2.1 ("java/lang/IndexOutOfBoundsException", "java/lang/IndexOutOfBoundsException") (by decide +kernel))) h1 h2 h3 ?_
      refine lv_astore (lv' := [(6, .ref q9), (0, .ref o), (1, .int 5), (2, .int x), (3, .int y), (4, .int z), (5, .int w)]) hx hb dL_act_294 hl (by decide) rfl (fun ls hl => ?_)
      refine lv_ldc (v := (-90000001)) hx hb hown (hts (.constant RL 73 (-90000001)) (by decide +kernel)) dL_act_296 ?_
      exact vx_ret (pr_i (v := (-90000001)) hx hb hr hlocks hw1 rfl ⟨Nat.le_of_ble_eq_true rfl, Nat.le_of_ble_eq_true rfl⟩ (Or.inr ⟨_, he, cE_i.symm⟩) dL_act_298)
    · rw [e9] at h3 he
      refine vx_catch hown [⟨0, 293, 294, 71⟩] ⟨0, 293, 299, 74⟩ [⟨0, 293, 304, 77⟩] (by rw [htab]; rfl) (fun z hz => by
              simp only [List.mem_cons, List.not_mem_nil, or_false] at hz
              subst hz
              exact Or.inr ⟨by decide, "java/lang/IndexOutOfBoundsException", hts (.classLink RL 71 "java/lang/IndexOutOfBoundsException") (by decide +kernel), hn ("java/lang/IllegalArgumentException", "java/lang/IndexOutOfBoundsException") (by decide +kernel)⟩) (by decide) (by decide) (hts (.classLink RL 74 "java/lang/IllegalArgumentException") (by decide +kernel)) (va_Nw.use rfl (hs.2.2.2.1 ("java/lang/IllegalArgumentException", "java/lang/IllegalArgumentException") (by decide +kernel))) h1 h2 h3 ?_
      refine lv_astore (lv' := [(6, .ref q9), (0, .ref o), (1, .int 5), (2, .int x), (3, .int y), (4, .int z), (5, .int w)]) hx hb dL_act_299 hl (by decide) rfl (fun ls hl => ?_)
      refine lv_ldc (v := (-90000002)) hx hb hown (hts (.constant RL 76 (-90000002)) (by decide +kernel)) dL_act_301 ?_
      exact vx_ret (pr_i (v := (-90000002)) hx hb hr hlocks hw1 rfl ⟨Nat.le_of_ble_eq_true rfl, Nat.le_of_ble_eq_true rfl⟩ (Or.inr ⟨_, he, cE_a.symm⟩) dL_act_303)
    · rw [e9] at h3 he
      refine vx_catch hown [⟨0, 293, 294, 71⟩, ⟨0, 293, 299, 74⟩] ⟨0, 293, 304, 77⟩ [] (by rw [htab]; rfl) (fun z hz => by
              simp only [List.mem_cons, List.not_mem_nil, or_false] at hz
              rcases hz with rfl | rfl
              · exact Or.inr ⟨by decide, "java/lang/IndexOutOfBoundsException", hts (.classLink RL 71 "java/lang/IndexOutOfBoundsException") (by decide +kernel), hn ("java/lang/IllegalStateException", "java/lang/IndexOutOfBoundsException") (by decide +kernel)⟩
              · exact Or.inr ⟨by decide, "java/lang/IllegalArgumentException", hts (.classLink RL 74 "java/lang/IllegalArgumentException") (by decide +kernel), hn ("java/lang/IllegalStateException", "java/lang/IllegalArgumentException") (by decide +kernel)⟩) (by decide) (by decide) (hts (.classLink RL 77 "java/lang/IllegalStateException") (by decide +kernel)) (va_Nw.use rfl (hs.2.2.2.1 ("java/lang/IllegalStateException", "java/lang/IllegalStateException") (by decide +kernel))) h1 h2 h3 ?_
      refine lv_astore (lv' := [(6, .ref q9), (0, .ref o), (1, .int 5), (2, .int x), (3, .int y), (4, .int z), (5, .int w)]) hx hb dL_act_304 hl (by decide) rfl (fun ls hl => ?_)
      refine lv_ldc (v := (-90000003)) hx hb hown (hts (.constant RL 79 (-90000003)) (by decide +kernel)) dL_act_306 ?_
      exact vx_ret (pr_i (v := (-90000003)) hx hb hr hlocks hw1 rfl ⟨Nat.le_of_ble_eq_true rfl, Nat.le_of_ble_eq_true rfl⟩ (Or.inr ⟨_, he, cE_s.symm⟩) dL_act_308)
  · refine lv_goto (tgt := 293) hx hb dL_act_88 (by decide) ?_
    exact vx_ret (pr_i (v := r) hx hb hr hlocks hw rfl ⟨Nat.le_of_ble_eq_true rfl, Nat.le_of_ble_eq_true rfl⟩ (Or.inl hp) dL_act_293)

set_option maxHeartbeats 4000000 in
set_option maxRecDepth 100000 in
theorem act_reinstate (l : Launch) (g : GE) (L : List Nat) (f : Nat → va_E) {o : Nat} {fs : List Value} (hq0 : o ∈ L) (hf0 : f o = .inr (8, fs)) (x y z w : Int32) {D : List (String × Prop)} {ok : Int32 → PE → Prop} {bad : PE → Prop} (hc : Xi l yX6_reinstate wsX6_reinstate (rmH 9 6 512) g L f [.ref o, .int x, .int y] (fun r u => allD D ∧ ok r u) (fun E u => exL D E ∧ bad u) 6 512) (hD : ∀ q, q ∈ D → q.1 = IOX ∨ q.1 = IAX ∨ q.1 = ISX) : Ni l yL_act wsL_act (rmH 10 8 524) g L f [.ref o, .int 6, .int x, .int y, .int z, .int w] (AnP D ok bad) 8 524 := by
  intro sz
  refine vx_ofWH (cc := cL_act) (maxL := 7) (ret := some .int) (hh := [(0, 293, 294, 71), (0, 293, 299, 74), (0, 293, 304, 77)]) (by decide) rfl ?_
  intro p e s m args below meth c s₁ B hml hv
  obtain ⟨rfl, hv⟩ := hv
  have hx := B.exec
  have hb := B.bytes
  have hr := B.returns
  have hts := atoms_spec (ws := wsL_act) B.pre
  have hown : s.vm.findClass RL = some m.cls := findClass_of_methodNamed B.named
  have hlocks := B.notSynchronized
  have htab := vx_table (x := yL_act) B (hts (.codeWith yL_act cL_act 7 (some .int) [(0, 293, 294, 71), (0, 293, 299, 74), (0, 293, 304, 77)]) List.mem_cons_self)
  obtain ⟨⟨rfl, hw, hs⟩, hn⟩ := pn_begin hv
  generalize va_A (va_pl L f) s.heap.size = A at hw hs ⊢
  have CF := (⟨hx, hb, hml, hown, hts⟩ : CallFix p m c cL_act 7 s _ wsL_act RL)
  have hl := lv_entry ([.ref o, .int 6, .int x, .int y, .int z, .int w]) (n := 7) (Nat.le_of_ble_eq_true rfl)
  rw [lg_entry_eq]
  generalize (lg_sl ([.ref o, .int 6, .int x, .int y, .int z, .int w]) ++ List.replicate (7 - (lg_sl ([.ref o, .int 6, .int x, .int y, .int z, .int w])).length) Slot.unset).toArray = ls at hl ⊢
  have hl : lv_has ls 7 [(0, .ref o), (1, .int 6), (2, .int x), (3, .int y), (4, .int z), (5, .int w)] := hl
  refine lv_iload_n hx hb dL_act_0 rfl (lv_at hl 1 rfl) ?_
  refine lv_if_ne (tgt := 12) hx hb dL_act_1 (by decide) (fun _ => ?_) (fun h9 => absurd h9 (by decide))
  refine lv_iload_n hx hb dL_act_12 rfl (lv_at hl 1 rfl) ?_
  refine lv_iconst (v := 1) hx hb dL_act_13 (by decide) ?_
  refine lv_icmp_ne (tgt := 28) hx hb dL_act_14 (by decide) (fun _ => ?_) (fun h9 => absurd h9 (by decide))
  refine lv_iload_n hx hb dL_act_28 rfl (lv_at hl 1 rfl) ?_
  refine lv_iconst (v := 2) hx hb dL_act_29 (by decide) ?_
  refine lv_icmp_ne (tgt := 41) hx hb dL_act_30 (by decide) (fun _ => ?_) (fun h9 => absurd h9 (by decide))
  refine lv_iload_n hx hb dL_act_41 rfl (lv_at hl 1 rfl) ?_
  refine lv_iconst (v := 3) hx hb dL_act_42 (by decide) ?_
  refine lv_icmp_ne (tgt := 59) hx hb dL_act_43 (by decide) (fun _ => ?_) (fun h9 => absurd h9 (by decide))
  refine lv_iload_n hx hb dL_act_59 rfl (lv_at hl 1 rfl) ?_
  refine lv_iconst (v := 4) hx hb dL_act_60 (by decide) ?_
  refine lv_icmp_ne (tgt := 77) hx hb dL_act_61 (by decide) (fun _ => ?_) (fun h9 => absurd h9 (by decide))
  refine lv_iload_n hx hb dL_act_77 rfl (lv_at hl 1 rfl) ?_
  refine lv_iconst (v := 5) hx hb dL_act_78 (by decide) ?_
  refine lv_icmp_ne (tgt := 91) hx hb dL_act_79 (by decide) (fun _ => ?_) (fun h9 => absurd h9 (by decide))
  refine lv_iload_n hx hb dL_act_91 rfl (lv_at hl 1 rfl) ?_
  refine lv_bipush (v := 6) hx hb dL_act_92 (by decide) ?_
  refine lv_icmp_ne (tgt := 106) hx hb dL_act_94 (by decide) (fun h9 => absurd rfl h9) (fun _ => ?_)
  refine lv_aload_n hx hb dL_act_97 rfl (lv_at hl 0 rfl) ?_
  refine lv_iload_n hx hb dL_act_98 rfl (lv_at hl 2 rfl) ?_
  refine lv_iload_n hx hb dL_act_99 rfl (lv_at hl 3 rfl) ?_
  refine px_ic hw (vx_runV (As := [.int x, .int y]) (rest := []) CF (hc _) (cwV 2 hts gL_act_X6_reinstate rfl rfl rfl (by decide +kernel) ⟨Nat.le_of_ble_eq_true rfl, Nat.le_of_ble_eq_true rfl⟩) (pm_preV hw hs (pm_recv hw hq0 hf0 rfl)) rfl rfl hl.1 rfl (lv_room (Nat.le_of_ble_eq_true rfl)) dL_act_100 ⟨Nat.le_of_ble_eq_true rfl, Nat.le_of_ble_eq_true rfl⟩) (fun E ce q9 L1 f1 H1 locs1 he hw1 h1 h2 h3 => ?_) (fun r L1 f1 H locs hp hw => ?_)
  · obtain ⟨q, hq, rfl⟩ := exL_mem _ he.1
    rcases hD q hq with e9 | e9 | e9
    · rw [e9] at h3 he
      refine vx_catch hown [] ⟨0, 293, 294, 71⟩ [⟨0, 293, 299, 74⟩, ⟨0, 293, 304, 77⟩] (by rw [htab]; rfl) (fun z hz => absurd hz List.not_mem_nil) (by decide) (by decide) (hts (.classLink RL 71 "java/lang/IndexOutOfBoundsException") (by decide +kernel)) (va_Nw.use rfl (hs.2.2.2.1 ("java/lang/IndexOutOfBoundsException", "java/lang/IndexOutOfBoundsException") (by decide +kernel))) h1 h2 h3 ?_
      refine lv_astore (lv' := [(6, .ref q9), (0, .ref o), (1, .int 6), (2, .int x), (3, .int y), (4, .int z), (5, .int w)]) hx hb dL_act_294 hl (by decide) rfl (fun ls hl => ?_)
      refine lv_ldc (v := (-90000001)) hx hb hown (hts (.constant RL 73 (-90000001)) (by decide +kernel)) dL_act_296 ?_
      exact vx_ret (pr_i (v := (-90000001)) hx hb hr hlocks hw1 rfl ⟨Nat.le_of_ble_eq_true rfl, Nat.le_of_ble_eq_true rfl⟩ (Or.inr ⟨_, he, cE_i.symm⟩) dL_act_298)
    · rw [e9] at h3 he
      refine vx_catch hown [⟨0, 293, 294, 71⟩] ⟨0, 293, 299, 74⟩ [⟨0, 293, 304, 77⟩] (by rw [htab]; rfl) (fun z hz => by
              simp only [List.mem_cons, List.not_mem_nil, or_false] at hz
              subst hz
              exact Or.inr ⟨by decide, "java/lang/IndexOutOfBoundsException", hts (.classLink RL 71 "java/lang/IndexOutOfBoundsException") (by decide +kernel), hn ("java/lang/IllegalArgumentException", "java/lang/IndexOutOfBoundsException") (by decide +kernel)⟩) (by decide) (by decide) (hts (.classLink RL 74 "java/lang/IllegalArgumentException") (by decide +kernel)) (va_Nw.use rfl (hs.2.2.2.1 ("java/lang/IllegalArgumentException", "java/lang/IllegalArgumentException") (by decide +kernel))) h1 h2 h3 ?_
      refine lv_astore (lv' := [(6, .ref q9), (0, .ref o), (1, .int 6), (2, .int x), (3, .int y), (4, .int z), (5, .int w)]) hx hb dL_act_299 hl (by decide) rfl (fun ls hl => ?_)
      refine lv_ldc (v := (-90000002)) hx hb hown (hts (.constant RL 76 (-90000002)) (by decide +kernel)) dL_act_301 ?_
      exact vx_ret (pr_i (v := (-90000002)) hx hb hr hlocks hw1 rfl ⟨Nat.le_of_ble_eq_true rfl, Nat.le_of_ble_eq_true rfl⟩ (Or.inr ⟨_, he, cE_a.symm⟩) dL_act_303)
    · rw [e9] at h3 he
      refine vx_catch hown [⟨0, 293, 294, 71⟩, ⟨0, 293, 299, 74⟩] ⟨0, 293, 304, 77⟩ [] (by rw [htab]; rfl) (fun z hz => by
              simp only [List.mem_cons, List.not_mem_nil, or_false] at hz
              rcases hz with rfl | rfl
              · exact Or.inr ⟨by decide, "java/lang/IndexOutOfBoundsException", hts (.classLink RL 71 "java/lang/IndexOutOfBoundsException") (by decide +kernel), hn ("java/lang/IllegalStateException", "java/lang/IndexOutOfBoundsException") (by decide +kernel)⟩
              · exact Or.inr ⟨by decide, "java/lang/IllegalArgumentException", hts (.classLink RL 74 "java/lang/IllegalArgumentException") (by decide +kernel), hn ("java/lang/IllegalStateException", "java/lang/IllegalArgumentException") (by decide +kernel)⟩) (by decide) (by decide) (hts (.classLink RL 77 "java/lang/IllegalStateException") (by decide +kernel)) (va_Nw.use rfl (hs.2.2.2.1 ("java/lang/IllegalStateException", "java/lang/IllegalStateException") (by decide +kernel))) h1 h2 h3 ?_
      refine lv_astore (lv' := [(6, .ref q9), (0, .ref o), (1, .int 6), (2, .int x), (3, .int y), (4, .int z), (5, .int w)]) hx hb dL_act_304 hl (by decide) rfl (fun ls hl => ?_)
      refine lv_ldc (v := (-90000003)) hx hb hown (hts (.constant RL 79 (-90000003)) (by decide +kernel)) dL_act_306 ?_
      exact vx_ret (pr_i (v := (-90000003)) hx hb hr hlocks hw1 rfl ⟨Nat.le_of_ble_eq_true rfl, Nat.le_of_ble_eq_true rfl⟩ (Or.inr ⟨_, he, cE_s.symm⟩) dL_act_308)
  · refine lv_goto (tgt := 293) hx hb dL_act_103 (by decide) ?_
    exact vx_ret (pr_i (v := r) hx hb hr hlocks hw rfl ⟨Nat.le_of_ble_eq_true rfl, Nat.le_of_ble_eq_true rfl⟩ (Or.inl hp) dL_act_293)

set_option maxHeartbeats 4000000 in
set_option maxRecDepth 100000 in
theorem act_takeBack (l : Launch) (g : GE) (L : List Nat) (f : Nat → va_E) {o : Nat} {fs : List Value} (hq0 : o ∈ L) (hf0 : f o = .inr (8, fs)) (x y z w : Int32) {D : List (String × Prop)} {ok : Int32 → PE → Prop} {bad : PE → Prop} (hc : Xi l yX6_takeBack wsX6_takeBack (rmH 4 2 12) g L f [.ref o, .int x] (fun r u => allD D ∧ ok r u) (fun E u => exL D E ∧ bad u) 2 12) (hD : ∀ q, q ∈ D → q.1 = IOX ∨ q.1 = IAX ∨ q.1 = ISX) : Ni l yL_act wsL_act (rmH 10 8 524) g L f [.ref o, .int 7, .int x, .int y, .int z, .int w] (AnP D ok bad) 8 524 := by
  intro sz
  refine vx_ofWH (cc := cL_act) (maxL := 7) (ret := some .int) (hh := [(0, 293, 294, 71), (0, 293, 299, 74), (0, 293, 304, 77)]) (by decide) rfl ?_
  intro p e s m args below meth c s₁ B hml hv
  obtain ⟨rfl, hv⟩ := hv
  have hx := B.exec
  have hb := B.bytes
  have hr := B.returns
  have hts := atoms_spec (ws := wsL_act) B.pre
  have hown : s.vm.findClass RL = some m.cls := findClass_of_methodNamed B.named
  have hlocks := B.notSynchronized
  have htab := vx_table (x := yL_act) B (hts (.codeWith yL_act cL_act 7 (some .int) [(0, 293, 294, 71), (0, 293, 299, 74), (0, 293, 304, 77)]) List.mem_cons_self)
  obtain ⟨⟨rfl, hw, hs⟩, hn⟩ := pn_begin hv
  generalize va_A (va_pl L f) s.heap.size = A at hw hs ⊢
  have CF := (⟨hx, hb, hml, hown, hts⟩ : CallFix p m c cL_act 7 s _ wsL_act RL)
  have hl := lv_entry ([.ref o, .int 7, .int x, .int y, .int z, .int w]) (n := 7) (Nat.le_of_ble_eq_true rfl)
  rw [lg_entry_eq]
  generalize (lg_sl ([.ref o, .int 7, .int x, .int y, .int z, .int w]) ++ List.replicate (7 - (lg_sl ([.ref o, .int 7, .int x, .int y, .int z, .int w])).length) Slot.unset).toArray = ls at hl ⊢
  have hl : lv_has ls 7 [(0, .ref o), (1, .int 7), (2, .int x), (3, .int y), (4, .int z), (5, .int w)] := hl
  refine lv_iload_n hx hb dL_act_0 rfl (lv_at hl 1 rfl) ?_
  refine lv_if_ne (tgt := 12) hx hb dL_act_1 (by decide) (fun _ => ?_) (fun h9 => absurd h9 (by decide))
  refine lv_iload_n hx hb dL_act_12 rfl (lv_at hl 1 rfl) ?_
  refine lv_iconst (v := 1) hx hb dL_act_13 (by decide) ?_
  refine lv_icmp_ne (tgt := 28) hx hb dL_act_14 (by decide) (fun _ => ?_) (fun h9 => absurd h9 (by decide))
  refine lv_iload_n hx hb dL_act_28 rfl (lv_at hl 1 rfl) ?_
  refine lv_iconst (v := 2) hx hb dL_act_29 (by decide) ?_
  refine lv_icmp_ne (tgt := 41) hx hb dL_act_30 (by decide) (fun _ => ?_) (fun h9 => absurd h9 (by decide))
  refine lv_iload_n hx hb dL_act_41 rfl (lv_at hl 1 rfl) ?_
  refine lv_iconst (v := 3) hx hb dL_act_42 (by decide) ?_
  refine lv_icmp_ne (tgt := 59) hx hb dL_act_43 (by decide) (fun _ => ?_) (fun h9 => absurd h9 (by decide))
  refine lv_iload_n hx hb dL_act_59 rfl (lv_at hl 1 rfl) ?_
  refine lv_iconst (v := 4) hx hb dL_act_60 (by decide) ?_
  refine lv_icmp_ne (tgt := 77) hx hb dL_act_61 (by decide) (fun _ => ?_) (fun h9 => absurd h9 (by decide))
  refine lv_iload_n hx hb dL_act_77 rfl (lv_at hl 1 rfl) ?_
  refine lv_iconst (v := 5) hx hb dL_act_78 (by decide) ?_
  refine lv_icmp_ne (tgt := 91) hx hb dL_act_79 (by decide) (fun _ => ?_) (fun h9 => absurd h9 (by decide))
  refine lv_iload_n hx hb dL_act_91 rfl (lv_at hl 1 rfl) ?_
  refine lv_bipush (v := 6) hx hb dL_act_92 (by decide) ?_
  refine lv_icmp_ne (tgt := 106) hx hb dL_act_94 (by decide) (fun _ => ?_) (fun h9 => absurd h9 (by decide))
  refine lv_iload_n hx hb dL_act_106 rfl (lv_at hl 1 rfl) ?_
  refine lv_bipush (v := 7) hx hb dL_act_107 (by decide) ?_
  refine lv_icmp_ne (tgt := 120) hx hb dL_act_109 (by decide) (fun h9 => absurd rfl h9) (fun _ => ?_)
  refine lv_aload_n hx hb dL_act_112 rfl (lv_at hl 0 rfl) ?_
  refine lv_iload_n hx hb dL_act_113 rfl (lv_at hl 2 rfl) ?_
  refine px_ic hw (vx_runV (As := [.int x]) (rest := []) CF (hc _) (cwV 1 hts gL_act_X6_takeBack rfl rfl rfl (by decide +kernel) ⟨Nat.le_of_ble_eq_true rfl, Nat.le_of_ble_eq_true rfl⟩) (pm_preV hw hs (pm_recv hw hq0 hf0 rfl)) rfl rfl hl.1 rfl (lv_room (Nat.le_of_ble_eq_true rfl)) dL_act_114 ⟨Nat.le_of_ble_eq_true rfl, Nat.le_of_ble_eq_true rfl⟩) (fun E ce q9 L1 f1 H1 locs1 he hw1 h1 h2 h3 => ?_) (fun r L1 f1 H locs hp hw => ?_)
  · obtain ⟨q, hq, rfl⟩ := exL_mem _ he.1
    rcases hD q hq with e9 | e9 | e9
    · rw [e9] at h3 he
      refine vx_catch hown [] ⟨0, 293, 294, 71⟩ [⟨0, 293, 299, 74⟩, ⟨0, 293, 304, 77⟩] (by rw [htab]; rfl) (fun z hz => absurd hz List.not_mem_nil) (by decide) (by decide) (hts (.classLink RL 71 "java/lang/IndexOutOfBoundsException") (by decide +kernel)) (va_Nw.use rfl (hs.2.2.2.1 ("java/lang/IndexOutOfBoundsException", "java/lang/IndexOutOfBoundsException") (by decide +kernel))) h1 h2 h3 ?_
      refine lv_astore (lv' := [(6, .ref q9), (0, .ref o), (1, .int 7), (2, .int x), (3, .int y), (4, .int z), (5, .int w)]) hx hb dL_act_294 hl (by decide) rfl (fun ls hl => ?_)
      refine lv_ldc (v := (-90000001)) hx hb hown (hts (.constant RL 73 (-90000001)) (by decide +kernel)) dL_act_296 ?_
      exact vx_ret (pr_i (v := (-90000001)) hx hb hr hlocks hw1 rfl ⟨Nat.le_of_ble_eq_true rfl, Nat.le_of_ble_eq_true rfl⟩ (Or.inr ⟨_, he, cE_i.symm⟩) dL_act_298)
    · rw [e9] at h3 he
      refine vx_catch hown [⟨0, 293, 294, 71⟩] ⟨0, 293, 299, 74⟩ [⟨0, 293, 304, 77⟩] (by rw [htab]; rfl) (fun z hz => by
              simp only [List.mem_cons, List.not_mem_nil, or_false] at hz
              subst hz
              exact Or.inr ⟨by decide, "java/lang/IndexOutOfBoundsException", hts (.classLink RL 71 "java/lang/IndexOutOfBoundsException") (by decide +kernel), hn ("java/lang/IllegalArgumentException", "java/lang/IndexOutOfBoundsException") (by decide +kernel)⟩) (by decide) (by decide) (hts (.classLink RL 74 "java/lang/IllegalArgumentException") (by decide +kernel)) (va_Nw.use rfl (hs.2.2.2.1 ("java/lang/IllegalArgumentException", "java/lang/IllegalArgumentException") (by decide +kernel))) h1 h2 h3 ?_
      refine lv_astore (lv' := [(6, .ref q9), (0, .ref o), (1, .int 7), (2, .int x), (3, .int y), (4, .int z), (5, .int w)]) hx hb dL_act_299 hl (by decide) rfl (fun ls hl => ?_)
      refine lv_ldc (v := (-90000002)) hx hb hown (hts (.constant RL 76 (-90000002)) (by decide +kernel)) dL_act_301 ?_
      exact vx_ret (pr_i (v := (-90000002)) hx hb hr hlocks hw1 rfl ⟨Nat.le_of_ble_eq_true rfl, Nat.le_of_ble_eq_true rfl⟩ (Or.inr ⟨_, he, cE_a.symm⟩) dL_act_303)
    · rw [e9] at h3 he
      refine vx_catch hown [⟨0, 293, 294, 71⟩, ⟨0, 293, 299, 74⟩] ⟨0, 293, 304, 77⟩ [] (by rw [htab]; rfl) (fun z hz => by
              simp only [List.mem_cons, List.not_mem_nil, or_false] at hz
              rcases hz with rfl | rfl
              · exact Or.inr ⟨by decide, "java/lang/IndexOutOfBoundsException", hts (.classLink RL 71 "java/lang/IndexOutOfBoundsException") (by decide +kernel), hn ("java/lang/IllegalStateException", "java/lang/IndexOutOfBoundsException") (by decide +kernel)⟩
              · exact Or.inr ⟨by decide, "java/lang/IllegalArgumentException", hts (.classLink RL 74 "java/lang/IllegalArgumentException") (by decide +kernel), hn ("java/lang/IllegalStateException", "java/lang/IllegalArgumentException") (by decide +kernel)⟩) (by decide) (by decide) (hts (.classLink RL 77 "java/lang/IllegalStateException") (by decide +kernel)) (va_Nw.use rfl (hs.2.2.2.1 ("java/lang/IllegalStateException", "java/lang/IllegalStateException") (by decide +kernel))) h1 h2 h3 ?_
      refine lv_astore (lv' := [(6, .ref q9), (0, .ref o), (1, .int 7), (2, .int x), (3, .int y), (4, .int z), (5, .int w)]) hx hb dL_act_304 hl (by decide) rfl (fun ls hl => ?_)
      refine lv_ldc (v := (-90000003)) hx hb hown (hts (.constant RL 79 (-90000003)) (by decide +kernel)) dL_act_306 ?_
      exact vx_ret (pr_i (v := (-90000003)) hx hb hr hlocks hw1 rfl ⟨Nat.le_of_ble_eq_true rfl, Nat.le_of_ble_eq_true rfl⟩ (Or.inr ⟨_, he, cE_s.symm⟩) dL_act_308)
  · refine lv_goto (tgt := 293) hx hb dL_act_117 (by decide) ?_
    exact vx_ret (pr_i (v := r) hx hb hr hlocks hw rfl ⟨Nat.le_of_ble_eq_true rfl, Nat.le_of_ble_eq_true rfl⟩ (Or.inl hp) dL_act_293)

set_option maxHeartbeats 4000000 in
set_option maxRecDepth 100000 in
theorem act_laidAnew (l : Launch) (g : GE) (L : List Nat) (f : Nat → va_E) {o : Nat} {fs : List Value} (hq0 : o ∈ L) (hf0 : f o = .inr (8, fs)) (x y z w : Int32) {D : List (String × Prop)} {ok : Int32 → PE → Prop} {bad : PE → Prop} (hc : Xi l yX6_laidAnew wsX6_laidAnew (rmH 4 1 6) g L f [.ref o, .int x] (fun r u => allD D ∧ ok r u) (fun E u => exL D E ∧ bad u) 1 6) (hD : ∀ q, q ∈ D → q.1 = IOX ∨ q.1 = IAX ∨ q.1 = ISX) : Ni l yL_act wsL_act (rmH 10 8 524) g L f [.ref o, .int 8, .int x, .int y, .int z, .int w] (AnP D ok bad) 8 524 := by
  intro sz
  refine vx_ofWH (cc := cL_act) (maxL := 7) (ret := some .int) (hh := [(0, 293, 294, 71), (0, 293, 299, 74), (0, 293, 304, 77)]) (by decide) rfl ?_
  intro p e s m args below meth c s₁ B hml hv
  obtain ⟨rfl, hv⟩ := hv
  have hx := B.exec
  have hb := B.bytes
  have hr := B.returns
  have hts := atoms_spec (ws := wsL_act) B.pre
  have hown : s.vm.findClass RL = some m.cls := findClass_of_methodNamed B.named
  have hlocks := B.notSynchronized
  have htab := vx_table (x := yL_act) B (hts (.codeWith yL_act cL_act 7 (some .int) [(0, 293, 294, 71), (0, 293, 299, 74), (0, 293, 304, 77)]) List.mem_cons_self)
  obtain ⟨⟨rfl, hw, hs⟩, hn⟩ := pn_begin hv
  generalize va_A (va_pl L f) s.heap.size = A at hw hs ⊢
  have CF := (⟨hx, hb, hml, hown, hts⟩ : CallFix p m c cL_act 7 s _ wsL_act RL)
  have hl := lv_entry ([.ref o, .int 8, .int x, .int y, .int z, .int w]) (n := 7) (Nat.le_of_ble_eq_true rfl)
  rw [lg_entry_eq]
  generalize (lg_sl ([.ref o, .int 8, .int x, .int y, .int z, .int w]) ++ List.replicate (7 - (lg_sl ([.ref o, .int 8, .int x, .int y, .int z, .int w])).length) Slot.unset).toArray = ls at hl ⊢
  have hl : lv_has ls 7 [(0, .ref o), (1, .int 8), (2, .int x), (3, .int y), (4, .int z), (5, .int w)] := hl
  refine lv_iload_n hx hb dL_act_0 rfl (lv_at hl 1 rfl) ?_
  refine lv_if_ne (tgt := 12) hx hb dL_act_1 (by decide) (fun _ => ?_) (fun h9 => absurd h9 (by decide))
  refine lv_iload_n hx hb dL_act_12 rfl (lv_at hl 1 rfl) ?_
  refine lv_iconst (v := 1) hx hb dL_act_13 (by decide) ?_
  refine lv_icmp_ne (tgt := 28) hx hb dL_act_14 (by decide) (fun _ => ?_) (fun h9 => absurd h9 (by decide))
  refine lv_iload_n hx hb dL_act_28 rfl (lv_at hl 1 rfl) ?_
  refine lv_iconst (v := 2) hx hb dL_act_29 (by decide) ?_
  refine lv_icmp_ne (tgt := 41) hx hb dL_act_30 (by decide) (fun _ => ?_) (fun h9 => absurd h9 (by decide))
  refine lv_iload_n hx hb dL_act_41 rfl (lv_at hl 1 rfl) ?_
  refine lv_iconst (v := 3) hx hb dL_act_42 (by decide) ?_
  refine lv_icmp_ne (tgt := 59) hx hb dL_act_43 (by decide) (fun _ => ?_) (fun h9 => absurd h9 (by decide))
  refine lv_iload_n hx hb dL_act_59 rfl (lv_at hl 1 rfl) ?_
  refine lv_iconst (v := 4) hx hb dL_act_60 (by decide) ?_
  refine lv_icmp_ne (tgt := 77) hx hb dL_act_61 (by decide) (fun _ => ?_) (fun h9 => absurd h9 (by decide))
  refine lv_iload_n hx hb dL_act_77 rfl (lv_at hl 1 rfl) ?_
  refine lv_iconst (v := 5) hx hb dL_act_78 (by decide) ?_
  refine lv_icmp_ne (tgt := 91) hx hb dL_act_79 (by decide) (fun _ => ?_) (fun h9 => absurd h9 (by decide))
  refine lv_iload_n hx hb dL_act_91 rfl (lv_at hl 1 rfl) ?_
  refine lv_bipush (v := 6) hx hb dL_act_92 (by decide) ?_
  refine lv_icmp_ne (tgt := 106) hx hb dL_act_94 (by decide) (fun _ => ?_) (fun h9 => absurd h9 (by decide))
  refine lv_iload_n hx hb dL_act_106 rfl (lv_at hl 1 rfl) ?_
  refine lv_bipush (v := 7) hx hb dL_act_107 (by decide) ?_
  refine lv_icmp_ne (tgt := 120) hx hb dL_act_109 (by decide) (fun _ => ?_) (fun h9 => absurd h9 (by decide))
  refine lv_iload_n hx hb dL_act_120 rfl (lv_at hl 1 rfl) ?_
  refine lv_bipush (v := 8) hx hb dL_act_121 (by decide) ?_
  refine lv_icmp_ne (tgt := 134) hx hb dL_act_123 (by decide) (fun h9 => absurd rfl h9) (fun _ => ?_)
  refine lv_aload_n hx hb dL_act_126 rfl (lv_at hl 0 rfl) ?_
  refine lv_iload_n hx hb dL_act_127 rfl (lv_at hl 2 rfl) ?_
  refine px_ic hw (vx_runV (As := [.int x]) (rest := []) CF (hc _) (cwV 1 hts gL_act_X6_laidAnew rfl rfl rfl (by decide +kernel) ⟨Nat.le_of_ble_eq_true rfl, Nat.le_of_ble_eq_true rfl⟩) (pm_preV hw hs (pm_recv hw hq0 hf0 rfl)) rfl rfl hl.1 rfl (lv_room (Nat.le_of_ble_eq_true rfl)) dL_act_128 ⟨Nat.le_of_ble_eq_true rfl, Nat.le_of_ble_eq_true rfl⟩) (fun E ce q9 L1 f1 H1 locs1 he hw1 h1 h2 h3 => ?_) (fun r L1 f1 H locs hp hw => ?_)
  · obtain ⟨q, hq, rfl⟩ := exL_mem _ he.1
    rcases hD q hq with e9 | e9 | e9
    · rw [e9] at h3 he
      refine vx_catch hown [] ⟨0, 293, 294, 71⟩ [⟨0, 293, 299, 74⟩, ⟨0, 293, 304, 77⟩] (by rw [htab]; rfl) (fun z hz => absurd hz List.not_mem_nil) (by decide) (by decide) (hts (.classLink RL 71 "java/lang/IndexOutOfBoundsException") (by decide +kernel)) (va_Nw.use rfl (hs.2.2.2.1 ("java/lang/IndexOutOfBoundsException", "java/lang/IndexOutOfBoundsException") (by decide +kernel))) h1 h2 h3 ?_
      refine lv_astore (lv' := [(6, .ref q9), (0, .ref o), (1, .int 8), (2, .int x), (3, .int y), (4, .int z), (5, .int w)]) hx hb dL_act_294 hl (by decide) rfl (fun ls hl => ?_)
      refine lv_ldc (v := (-90000001)) hx hb hown (hts (.constant RL 73 (-90000001)) (by decide +kernel)) dL_act_296 ?_
      exact vx_ret (pr_i (v := (-90000001)) hx hb hr hlocks hw1 rfl ⟨Nat.le_of_ble_eq_true rfl, Nat.le_of_ble_eq_true rfl⟩ (Or.inr ⟨_, he, cE_i.symm⟩) dL_act_298)
    · rw [e9] at h3 he
      refine vx_catch hown [⟨0, 293, 294, 71⟩] ⟨0, 293, 299, 74⟩ [⟨0, 293, 304, 77⟩] (by rw [htab]; rfl) (fun z hz => by
              simp only [List.mem_cons, List.not_mem_nil, or_false] at hz
              subst hz
              exact Or.inr ⟨by decide, "java/lang/IndexOutOfBoundsException", hts (.classLink RL 71 "java/lang/IndexOutOfBoundsException") (by decide +kernel), hn ("java/lang/IllegalArgumentException", "java/lang/IndexOutOfBoundsException") (by decide +kernel)⟩) (by decide) (by decide) (hts (.classLink RL 74 "java/lang/IllegalArgumentException") (by decide +kernel)) (va_Nw.use rfl (hs.2.2.2.1 ("java/lang/IllegalArgumentException", "java/lang/IllegalArgumentException") (by decide +kernel))) h1 h2 h3 ?_
      refine lv_astore (lv' := [(6, .ref q9), (0, .ref o), (1, .int 8), (2, .int x), (3, .int y), (4, .int z), (5, .int w)]) hx hb dL_act_299 hl (by decide) rfl (fun ls hl => ?_)
      refine lv_ldc (v := (-90000002)) hx hb hown (hts (.constant RL 76 (-90000002)) (by decide +kernel)) dL_act_301 ?_
      exact vx_ret (pr_i (v := (-90000002)) hx hb hr hlocks hw1 rfl ⟨Nat.le_of_ble_eq_true rfl, Nat.le_of_ble_eq_true rfl⟩ (Or.inr ⟨_, he, cE_a.symm⟩) dL_act_303)
    · rw [e9] at h3 he
      refine vx_catch hown [⟨0, 293, 294, 71⟩, ⟨0, 293, 299, 74⟩] ⟨0, 293, 304, 77⟩ [] (by rw [htab]; rfl) (fun z hz => by
              simp only [List.mem_cons, List.not_mem_nil, or_false] at hz
              rcases hz with rfl | rfl
              · exact Or.inr ⟨by decide, "java/lang/IndexOutOfBoundsException", hts (.classLink RL 71 "java/lang/IndexOutOfBoundsException") (by decide +kernel), hn ("java/lang/IllegalStateException", "java/lang/IndexOutOfBoundsException") (by decide +kernel)⟩
              · exact Or.inr ⟨by decide, "java/lang/IllegalArgumentException", hts (.classLink RL 74 "java/lang/IllegalArgumentException") (by decide +kernel), hn ("java/lang/IllegalStateException", "java/lang/IllegalArgumentException") (by decide +kernel)⟩) (by decide) (by decide) (hts (.classLink RL 77 "java/lang/IllegalStateException") (by decide +kernel)) (va_Nw.use rfl (hs.2.2.2.1 ("java/lang/IllegalStateException", "java/lang/IllegalStateException") (by decide +kernel))) h1 h2 h3 ?_
      refine lv_astore (lv' := [(6, .ref q9), (0, .ref o), (1, .int 8), (2, .int x), (3, .int y), (4, .int z), (5, .int w)]) hx hb dL_act_304 hl (by decide) rfl (fun ls hl => ?_)
      refine lv_ldc (v := (-90000003)) hx hb hown (hts (.constant RL 79 (-90000003)) (by decide +kernel)) dL_act_306 ?_
      exact vx_ret (pr_i (v := (-90000003)) hx hb hr hlocks hw1 rfl ⟨Nat.le_of_ble_eq_true rfl, Nat.le_of_ble_eq_true rfl⟩ (Or.inr ⟨_, he, cE_s.symm⟩) dL_act_308)
  · refine lv_goto (tgt := 293) hx hb dL_act_131 (by decide) ?_
    exact vx_ret (pr_i (v := r) hx hb hr hlocks hw rfl ⟨Nat.le_of_ble_eq_true rfl, Nat.le_of_ble_eq_true rfl⟩ (Or.inl hp) dL_act_293)

set_option maxHeartbeats 4000000 in
set_option maxRecDepth 100000 in
theorem act_value (l : Launch) (g : GE) (L : List Nat) (f : Nat → va_E) {o : Nat} {fs : List Value} (hq0 : o ∈ L) (hf0 : f o = .inr (8, fs)) (x y z w : Int32) {D : List (String × Prop)} {ok : Int32 → PE → Prop} {bad : PE → Prop} (hc : Xi l yX6_value wsX6_value (rmH 6 4 24) g L f [.ref o, .int x, .int y, .int z, .int w] (fun r u => allD D ∧ ok r u) (fun E u => exL D E ∧ bad u) 4 24) (hD : ∀ q, q ∈ D → q.1 = IOX ∨ q.1 = IAX ∨ q.1 = ISX) : Ni l yL_act wsL_act (rmH 10 8 524) g L f [.ref o, .int 9, .int x, .int y, .int z, .int w] (AnP D ok bad) 8 524 := by
  intro sz
  refine vx_ofWH (cc := cL_act) (maxL := 7) (ret := some .int) (hh := [(0, 293, 294, 71), (0, 293, 299, 74), (0, 293, 304, 77)]) (by decide) rfl ?_
  intro p e s m args below meth c s₁ B hml hv
  obtain ⟨rfl, hv⟩ := hv
  have hx := B.exec
  have hb := B.bytes
  have hr := B.returns
  have hts := atoms_spec (ws := wsL_act) B.pre
  have hown : s.vm.findClass RL = some m.cls := findClass_of_methodNamed B.named
  have hlocks := B.notSynchronized
  have htab := vx_table (x := yL_act) B (hts (.codeWith yL_act cL_act 7 (some .int) [(0, 293, 294, 71), (0, 293, 299, 74), (0, 293, 304, 77)]) List.mem_cons_self)
  obtain ⟨⟨rfl, hw, hs⟩, hn⟩ := pn_begin hv
  generalize va_A (va_pl L f) s.heap.size = A at hw hs ⊢
  have CF := (⟨hx, hb, hml, hown, hts⟩ : CallFix p m c cL_act 7 s _ wsL_act RL)
  have hl := lv_entry ([.ref o, .int 9, .int x, .int y, .int z, .int w]) (n := 7) (Nat.le_of_ble_eq_true rfl)
  rw [lg_entry_eq]
  generalize (lg_sl ([.ref o, .int 9, .int x, .int y, .int z, .int w]) ++ List.replicate (7 - (lg_sl ([.ref o, .int 9, .int x, .int y, .int z, .int w])).length) Slot.unset).toArray = ls at hl ⊢
  have hl : lv_has ls 7 [(0, .ref o), (1, .int 9), (2, .int x), (3, .int y), (4, .int z), (5, .int w)] := hl
  refine lv_iload_n hx hb dL_act_0 rfl (lv_at hl 1 rfl) ?_
  refine lv_if_ne (tgt := 12) hx hb dL_act_1 (by decide) (fun _ => ?_) (fun h9 => absurd h9 (by decide))
  refine lv_iload_n hx hb dL_act_12 rfl (lv_at hl 1 rfl) ?_
  refine lv_iconst (v := 1) hx hb dL_act_13 (by decide) ?_
  refine lv_icmp_ne (tgt := 28) hx hb dL_act_14 (by decide) (fun _ => ?_) (fun h9 => absurd h9 (by decide))
  refine lv_iload_n hx hb dL_act_28 rfl (lv_at hl 1 rfl) ?_
  refine lv_iconst (v := 2) hx hb dL_act_29 (by decide) ?_
  refine lv_icmp_ne (tgt := 41) hx hb dL_act_30 (by decide) (fun _ => ?_) (fun h9 => absurd h9 (by decide))
  refine lv_iload_n hx hb dL_act_41 rfl (lv_at hl 1 rfl) ?_
  refine lv_iconst (v := 3) hx hb dL_act_42 (by decide) ?_
  refine lv_icmp_ne (tgt := 59) hx hb dL_act_43 (by decide) (fun _ => ?_) (fun h9 => absurd h9 (by decide))
  refine lv_iload_n hx hb dL_act_59 rfl (lv_at hl 1 rfl) ?_
  refine lv_iconst (v := 4) hx hb dL_act_60 (by decide) ?_
  refine lv_icmp_ne (tgt := 77) hx hb dL_act_61 (by decide) (fun _ => ?_) (fun h9 => absurd h9 (by decide))
  refine lv_iload_n hx hb dL_act_77 rfl (lv_at hl 1 rfl) ?_
  refine lv_iconst (v := 5) hx hb dL_act_78 (by decide) ?_
  refine lv_icmp_ne (tgt := 91) hx hb dL_act_79 (by decide) (fun _ => ?_) (fun h9 => absurd h9 (by decide))
  refine lv_iload_n hx hb dL_act_91 rfl (lv_at hl 1 rfl) ?_
  refine lv_bipush (v := 6) hx hb dL_act_92 (by decide) ?_
  refine lv_icmp_ne (tgt := 106) hx hb dL_act_94 (by decide) (fun _ => ?_) (fun h9 => absurd h9 (by decide))
  refine lv_iload_n hx hb dL_act_106 rfl (lv_at hl 1 rfl) ?_
  refine lv_bipush (v := 7) hx hb dL_act_107 (by decide) ?_
  refine lv_icmp_ne (tgt := 120) hx hb dL_act_109 (by decide) (fun _ => ?_) (fun h9 => absurd h9 (by decide))
  refine lv_iload_n hx hb dL_act_120 rfl (lv_at hl 1 rfl) ?_
  refine lv_bipush (v := 8) hx hb dL_act_121 (by decide) ?_
  refine lv_icmp_ne (tgt := 134) hx hb dL_act_123 (by decide) (fun _ => ?_) (fun h9 => absurd h9 (by decide))
  refine lv_iload_n hx hb dL_act_134 rfl (lv_at hl 1 rfl) ?_
  refine lv_bipush (v := 9) hx hb dL_act_135 (by decide) ?_
  refine lv_icmp_ne (tgt := 153) hx hb dL_act_137 (by decide) (fun h9 => absurd rfl h9) (fun _ => ?_)
  refine lv_aload_n hx hb dL_act_140 rfl (lv_at hl 0 rfl) ?_
  refine lv_iload_n hx hb dL_act_141 rfl (lv_at hl 2 rfl) ?_
  refine lv_iload_n hx hb dL_act_142 rfl (lv_at hl 3 rfl) ?_
  refine lv_iload hx hb dL_act_143 (lv_at hl 4 rfl) ?_
  refine lv_iload hx hb dL_act_145 (lv_at hl 5 rfl) ?_
  refine px_ic hw (vx_runV (As := [.int x, .int y, .int z, .int w]) (rest := []) CF (hc _) (cwV 4 hts gL_act_X6_value rfl rfl rfl (by decide +kernel) ⟨Nat.le_of_ble_eq_true rfl, Nat.le_of_ble_eq_true rfl⟩) (pm_preV hw hs (pm_recv hw hq0 hf0 rfl)) rfl rfl hl.1 rfl (lv_room (Nat.le_of_ble_eq_true rfl)) dL_act_147 ⟨Nat.le_of_ble_eq_true rfl, Nat.le_of_ble_eq_true rfl⟩) (fun E ce q9 L1 f1 H1 locs1 he hw1 h1 h2 h3 => ?_) (fun r L1 f1 H locs hp hw => ?_)
  · obtain ⟨q, hq, rfl⟩ := exL_mem _ he.1
    rcases hD q hq with e9 | e9 | e9
    · rw [e9] at h3 he
      refine vx_catch hown [] ⟨0, 293, 294, 71⟩ [⟨0, 293, 299, 74⟩, ⟨0, 293, 304, 77⟩] (by rw [htab]; rfl) (fun z hz => absurd hz List.not_mem_nil) (by decide) (by decide) (hts (.classLink RL 71 "java/lang/IndexOutOfBoundsException") (by decide +kernel)) (va_Nw.use rfl (hs.2.2.2.1 ("java/lang/IndexOutOfBoundsException", "java/lang/IndexOutOfBoundsException") (by decide +kernel))) h1 h2 h3 ?_
      refine lv_astore (lv' := [(6, .ref q9), (0, .ref o), (1, .int 9), (2, .int x), (3, .int y), (4, .int z), (5, .int w)]) hx hb dL_act_294 hl (by decide) rfl (fun ls hl => ?_)
      refine lv_ldc (v := (-90000001)) hx hb hown (hts (.constant RL 73 (-90000001)) (by decide +kernel)) dL_act_296 ?_
      exact vx_ret (pr_i (v := (-90000001)) hx hb hr hlocks hw1 rfl ⟨Nat.le_of_ble_eq_true rfl, Nat.le_of_ble_eq_true rfl⟩ (Or.inr ⟨_, he, cE_i.symm⟩) dL_act_298)
    · rw [e9] at h3 he
      refine vx_catch hown [⟨0, 293, 294, 71⟩] ⟨0, 293, 299, 74⟩ [⟨0, 293, 304, 77⟩] (by rw [htab]; rfl) (fun z hz => by
              simp only [List.mem_cons, List.not_mem_nil, or_false] at hz
              subst hz
              exact Or.inr ⟨by decide, "java/lang/IndexOutOfBoundsException", hts (.classLink RL 71 "java/lang/IndexOutOfBoundsException") (by decide +kernel), hn ("java/lang/IllegalArgumentException", "java/lang/IndexOutOfBoundsException") (by decide +kernel)⟩) (by decide) (by decide) (hts (.classLink RL 74 "java/lang/IllegalArgumentException") (by decide +kernel)) (va_Nw.use rfl (hs.2.2.2.1 ("java/lang/IllegalArgumentException", "java/lang/IllegalArgumentException") (by decide +kernel))) h1 h2 h3 ?_
      refine lv_astore (lv' := [(6, .ref q9), (0, .ref o), (1, .int 9), (2, .int x), (3, .int y), (4, .int z), (5, .int w)]) hx hb dL_act_299 hl (by decide) rfl (fun ls hl => ?_)
      refine lv_ldc (v := (-90000002)) hx hb hown (hts (.constant RL 76 (-90000002)) (by decide +kernel)) dL_act_301 ?_
      exact vx_ret (pr_i (v := (-90000002)) hx hb hr hlocks hw1 rfl ⟨Nat.le_of_ble_eq_true rfl, Nat.le_of_ble_eq_true rfl⟩ (Or.inr ⟨_, he, cE_a.symm⟩) dL_act_303)
    · rw [e9] at h3 he
      refine vx_catch hown [⟨0, 293, 294, 71⟩, ⟨0, 293, 299, 74⟩] ⟨0, 293, 304, 77⟩ [] (by rw [htab]; rfl) (fun z hz => by
              simp only [List.mem_cons, List.not_mem_nil, or_false] at hz
              rcases hz with rfl | rfl
              · exact Or.inr ⟨by decide, "java/lang/IndexOutOfBoundsException", hts (.classLink RL 71 "java/lang/IndexOutOfBoundsException") (by decide +kernel), hn ("java/lang/IllegalStateException", "java/lang/IndexOutOfBoundsException") (by decide +kernel)⟩
              · exact Or.inr ⟨by decide, "java/lang/IllegalArgumentException", hts (.classLink RL 74 "java/lang/IllegalArgumentException") (by decide +kernel), hn ("java/lang/IllegalStateException", "java/lang/IllegalArgumentException") (by decide +kernel)⟩) (by decide) (by decide) (hts (.classLink RL 77 "java/lang/IllegalStateException") (by decide +kernel)) (va_Nw.use rfl (hs.2.2.2.1 ("java/lang/IllegalStateException", "java/lang/IllegalStateException") (by decide +kernel))) h1 h2 h3 ?_
      refine lv_astore (lv' := [(6, .ref q9), (0, .ref o), (1, .int 9), (2, .int x), (3, .int y), (4, .int z), (5, .int w)]) hx hb dL_act_304 hl (by decide) rfl (fun ls hl => ?_)
      refine lv_ldc (v := (-90000003)) hx hb hown (hts (.constant RL 79 (-90000003)) (by decide +kernel)) dL_act_306 ?_
      exact vx_ret (pr_i (v := (-90000003)) hx hb hr hlocks hw1 rfl ⟨Nat.le_of_ble_eq_true rfl, Nat.le_of_ble_eq_true rfl⟩ (Or.inr ⟨_, he, cE_s.symm⟩) dL_act_308)
  · refine lv_goto (tgt := 293) hx hb dL_act_150 (by decide) ?_
    exact vx_ret (pr_i (v := r) hx hb hr hlocks hw rfl ⟨Nat.le_of_ble_eq_true rfl, Nat.le_of_ble_eq_true rfl⟩ (Or.inl hp) dL_act_293)

set_option maxHeartbeats 4000000 in
set_option maxRecDepth 100000 in
theorem act_isCovered (l : Launch) (g : GE) (L : List Nat) (f : Nat → va_E) {o : Nat} {fs : List Value} (hq0 : o ∈ L) (hf0 : f o = .inr (8, fs)) (x y z w : Int32) {D : List (String × Prop)} {ok : Int32 → PE → Prop} {bad : PE → Prop} (hc : Xi l yX6_isCovered wsX6_isCovered (rmH 6 3 18) g L f [.ref o, .int x, .int y, .int z] (fun r u => allD D ∧ ok r u) (fun E u => exL D E ∧ bad u) 3 18) (hD : ∀ q, q ∈ D → q.1 = IOX ∨ q.1 = IAX ∨ q.1 = ISX) (h01 : ∀ v u, ok v u → v = 0 ∨ v = 1) : Ni l yL_act wsL_act (rmH 10 8 524) g L f [.ref o, .int 10, .int x, .int y, .int z, .int w] (AnP D ok bad) 8 524 := by
  intro sz
  refine vx_ofWH (cc := cL_act) (maxL := 7) (ret := some .int) (hh := [(0, 293, 294, 71), (0, 293, 299, 74), (0, 293, 304, 77)]) (by decide) rfl ?_
  intro p e s m args below meth c s₁ B hml hv
  obtain ⟨rfl, hv⟩ := hv
  have hx := B.exec
  have hb := B.bytes
  have hr := B.returns
  have hts := atoms_spec (ws := wsL_act) B.pre
  have hown : s.vm.findClass RL = some m.cls := findClass_of_methodNamed B.named
  have hlocks := B.notSynchronized
  have htab := vx_table (x := yL_act) B (hts (.codeWith yL_act cL_act 7 (some .int) [(0, 293, 294, 71), (0, 293, 299, 74), (0, 293, 304, 77)]) List.mem_cons_self)
  obtain ⟨⟨rfl, hw, hs⟩, hn⟩ := pn_begin hv
  generalize va_A (va_pl L f) s.heap.size = A at hw hs ⊢
  have CF := (⟨hx, hb, hml, hown, hts⟩ : CallFix p m c cL_act 7 s _ wsL_act RL)
  have hl := lv_entry ([.ref o, .int 10, .int x, .int y, .int z, .int w]) (n := 7) (Nat.le_of_ble_eq_true rfl)
  rw [lg_entry_eq]
  generalize (lg_sl ([.ref o, .int 10, .int x, .int y, .int z, .int w]) ++ List.replicate (7 - (lg_sl ([.ref o, .int 10, .int x, .int y, .int z, .int w])).length) Slot.unset).toArray = ls at hl ⊢
  have hl : lv_has ls 7 [(0, .ref o), (1, .int 10), (2, .int x), (3, .int y), (4, .int z), (5, .int w)] := hl
  refine lv_iload_n hx hb dL_act_0 rfl (lv_at hl 1 rfl) ?_
  refine lv_if_ne (tgt := 12) hx hb dL_act_1 (by decide) (fun _ => ?_) (fun h9 => absurd h9 (by decide))
  refine lv_iload_n hx hb dL_act_12 rfl (lv_at hl 1 rfl) ?_
  refine lv_iconst (v := 1) hx hb dL_act_13 (by decide) ?_
  refine lv_icmp_ne (tgt := 28) hx hb dL_act_14 (by decide) (fun _ => ?_) (fun h9 => absurd h9 (by decide))
  refine lv_iload_n hx hb dL_act_28 rfl (lv_at hl 1 rfl) ?_
  refine lv_iconst (v := 2) hx hb dL_act_29 (by decide) ?_
  refine lv_icmp_ne (tgt := 41) hx hb dL_act_30 (by decide) (fun _ => ?_) (fun h9 => absurd h9 (by decide))
  refine lv_iload_n hx hb dL_act_41 rfl (lv_at hl 1 rfl) ?_
  refine lv_iconst (v := 3) hx hb dL_act_42 (by decide) ?_
  refine lv_icmp_ne (tgt := 59) hx hb dL_act_43 (by decide) (fun _ => ?_) (fun h9 => absurd h9 (by decide))
  refine lv_iload_n hx hb dL_act_59 rfl (lv_at hl 1 rfl) ?_
  refine lv_iconst (v := 4) hx hb dL_act_60 (by decide) ?_
  refine lv_icmp_ne (tgt := 77) hx hb dL_act_61 (by decide) (fun _ => ?_) (fun h9 => absurd h9 (by decide))
  refine lv_iload_n hx hb dL_act_77 rfl (lv_at hl 1 rfl) ?_
  refine lv_iconst (v := 5) hx hb dL_act_78 (by decide) ?_
  refine lv_icmp_ne (tgt := 91) hx hb dL_act_79 (by decide) (fun _ => ?_) (fun h9 => absurd h9 (by decide))
  refine lv_iload_n hx hb dL_act_91 rfl (lv_at hl 1 rfl) ?_
  refine lv_bipush (v := 6) hx hb dL_act_92 (by decide) ?_
  refine lv_icmp_ne (tgt := 106) hx hb dL_act_94 (by decide) (fun _ => ?_) (fun h9 => absurd h9 (by decide))
  refine lv_iload_n hx hb dL_act_106 rfl (lv_at hl 1 rfl) ?_
  refine lv_bipush (v := 7) hx hb dL_act_107 (by decide) ?_
  refine lv_icmp_ne (tgt := 120) hx hb dL_act_109 (by decide) (fun _ => ?_) (fun h9 => absurd h9 (by decide))
  refine lv_iload_n hx hb dL_act_120 rfl (lv_at hl 1 rfl) ?_
  refine lv_bipush (v := 8) hx hb dL_act_121 (by decide) ?_
  refine lv_icmp_ne (tgt := 134) hx hb dL_act_123 (by decide) (fun _ => ?_) (fun h9 => absurd h9 (by decide))
  refine lv_iload_n hx hb dL_act_134 rfl (lv_at hl 1 rfl) ?_
  refine lv_bipush (v := 9) hx hb dL_act_135 (by decide) ?_
  refine lv_icmp_ne (tgt := 153) hx hb dL_act_137 (by decide) (fun _ => ?_) (fun h9 => absurd h9 (by decide))
  refine lv_iload_n hx hb dL_act_153 rfl (lv_at hl 1 rfl) ?_
  refine lv_bipush (v := 10) hx hb dL_act_154 (by decide) ?_
  refine lv_icmp_ne (tgt := 178) hx hb dL_act_156 (by decide) (fun h9 => absurd rfl h9) (fun _ => ?_)
  refine lv_aload_n hx hb dL_act_159 rfl (lv_at hl 0 rfl) ?_
  refine lv_iload_n hx hb dL_act_160 rfl (lv_at hl 2 rfl) ?_
  refine lv_iload_n hx hb dL_act_161 rfl (lv_at hl 3 rfl) ?_
  refine lv_iload hx hb dL_act_162 (lv_at hl 4 rfl) ?_
  refine px_ic hw (vx_runV (As := [.int x, .int y, .int z]) (rest := []) CF (hc _) (cwV 3 hts gL_act_X6_isCovered rfl rfl rfl (by decide +kernel) ⟨Nat.le_of_ble_eq_true rfl, Nat.le_of_ble_eq_true rfl⟩) (pm_preV hw hs (pm_recv hw hq0 hf0 rfl)) rfl rfl hl.1 rfl (lv_room (Nat.le_of_ble_eq_true rfl)) dL_act_164 ⟨Nat.le_of_ble_eq_true rfl, Nat.le_of_ble_eq_true rfl⟩) (fun E ce q9 L1 f1 H1 locs1 he hw1 h1 h2 h3 => ?_) (fun r L1 f1 H locs hp hw => ?_)
  · obtain ⟨q, hq, rfl⟩ := exL_mem _ he.1
    rcases hD q hq with e9 | e9 | e9
    · rw [e9] at h3 he
      refine vx_catch hown [] ⟨0, 293, 294, 71⟩ [⟨0, 293, 299, 74⟩, ⟨0, 293, 304, 77⟩] (by rw [htab]; rfl) (fun z hz => absurd hz List.not_mem_nil) (by decide) (by decide) (hts (.classLink RL 71 "java/lang/IndexOutOfBoundsException") (by decide +kernel)) (va_Nw.use rfl (hs.2.2.2.1 ("java/lang/IndexOutOfBoundsException", "java/lang/IndexOutOfBoundsException") (by decide +kernel))) h1 h2 h3 ?_
      refine lv_astore (lv' := [(6, .ref q9), (0, .ref o), (1, .int 10), (2, .int x), (3, .int y), (4, .int z), (5, .int w)]) hx hb dL_act_294 hl (by decide) rfl (fun ls hl => ?_)
      refine lv_ldc (v := (-90000001)) hx hb hown (hts (.constant RL 73 (-90000001)) (by decide +kernel)) dL_act_296 ?_
      exact vx_ret (pr_i (v := (-90000001)) hx hb hr hlocks hw1 rfl ⟨Nat.le_of_ble_eq_true rfl, Nat.le_of_ble_eq_true rfl⟩ (Or.inr ⟨_, he, cE_i.symm⟩) dL_act_298)
    · rw [e9] at h3 he
      refine vx_catch hown [⟨0, 293, 294, 71⟩] ⟨0, 293, 299, 74⟩ [⟨0, 293, 304, 77⟩] (by rw [htab]; rfl) (fun z hz => by
              simp only [List.mem_cons, List.not_mem_nil, or_false] at hz
              subst hz
              exact Or.inr ⟨by decide, "java/lang/IndexOutOfBoundsException", hts (.classLink RL 71 "java/lang/IndexOutOfBoundsException") (by decide +kernel), hn ("java/lang/IllegalArgumentException", "java/lang/IndexOutOfBoundsException") (by decide +kernel)⟩) (by decide) (by decide) (hts (.classLink RL 74 "java/lang/IllegalArgumentException") (by decide +kernel)) (va_Nw.use rfl (hs.2.2.2.1 ("java/lang/IllegalArgumentException", "java/lang/IllegalArgumentException") (by decide +kernel))) h1 h2 h3 ?_
      refine lv_astore (lv' := [(6, .ref q9), (0, .ref o), (1, .int 10), (2, .int x), (3, .int y), (4, .int z), (5, .int w)]) hx hb dL_act_299 hl (by decide) rfl (fun ls hl => ?_)
      refine lv_ldc (v := (-90000002)) hx hb hown (hts (.constant RL 76 (-90000002)) (by decide +kernel)) dL_act_301 ?_
      exact vx_ret (pr_i (v := (-90000002)) hx hb hr hlocks hw1 rfl ⟨Nat.le_of_ble_eq_true rfl, Nat.le_of_ble_eq_true rfl⟩ (Or.inr ⟨_, he, cE_a.symm⟩) dL_act_303)
    · rw [e9] at h3 he
      refine vx_catch hown [⟨0, 293, 294, 71⟩, ⟨0, 293, 299, 74⟩] ⟨0, 293, 304, 77⟩ [] (by rw [htab]; rfl) (fun z hz => by
              simp only [List.mem_cons, List.not_mem_nil, or_false] at hz
              rcases hz with rfl | rfl
              · exact Or.inr ⟨by decide, "java/lang/IndexOutOfBoundsException", hts (.classLink RL 71 "java/lang/IndexOutOfBoundsException") (by decide +kernel), hn ("java/lang/IllegalStateException", "java/lang/IndexOutOfBoundsException") (by decide +kernel)⟩
              · exact Or.inr ⟨by decide, "java/lang/IllegalArgumentException", hts (.classLink RL 74 "java/lang/IllegalArgumentException") (by decide +kernel), hn ("java/lang/IllegalStateException", "java/lang/IllegalArgumentException") (by decide +kernel)⟩) (by decide) (by decide) (hts (.classLink RL 77 "java/lang/IllegalStateException") (by decide +kernel)) (va_Nw.use rfl (hs.2.2.2.1 ("java/lang/IllegalStateException", "java/lang/IllegalStateException") (by decide +kernel))) h1 h2 h3 ?_
      refine lv_astore (lv' := [(6, .ref q9), (0, .ref o), (1, .int 10), (2, .int x), (3, .int y), (4, .int z), (5, .int w)]) hx hb dL_act_304 hl (by decide) rfl (fun ls hl => ?_)
      refine lv_ldc (v := (-90000003)) hx hb hown (hts (.constant RL 79 (-90000003)) (by decide +kernel)) dL_act_306 ?_
      exact vx_ret (pr_i (v := (-90000003)) hx hb hr hlocks hw1 rfl ⟨Nat.le_of_ble_eq_true rfl, Nat.le_of_ble_eq_true rfl⟩ (Or.inr ⟨_, he, cE_s.symm⟩) dL_act_308)
  · refine lv_if_eq (tgt := 174) hx hb dL_act_167 (by decide) (fun h9 => ?_) (fun h9 => ?_)
    · refine lv_iconst (v := 0) hx hb dL_act_174 (by decide) ?_
      refine lv_goto (tgt := 293) hx hb dL_act_175 (by decide) ?_
      exact vx_ret (pr_i (v := 0) hx hb hr hlocks hw rfl ⟨Nat.le_of_ble_eq_true rfl, Nat.le_of_ble_eq_true rfl⟩ (Or.inl ⟨hp.1, by rw [← show r = 0 from h9]; exact hp.2⟩) dL_act_293)
    · refine lv_iconst (v := 1) hx hb dL_act_170 (by decide) ?_
      refine lv_goto (tgt := 293) hx hb dL_act_171 (by decide) ?_
      exact vx_ret (pr_i (v := 1) hx hb hr hlocks hw rfl ⟨Nat.le_of_ble_eq_true rfl, Nat.le_of_ble_eq_true rfl⟩ (Or.inl ⟨hp.1, by rw [← (h01 r _ hp.2).resolve_left h9]; exact hp.2⟩) dL_act_293)

set_option maxHeartbeats 4000000 in
set_option maxRecDepth 100000 in
theorem act_rate (l : Launch) (g : GE) (L : List Nat) (f : Nat → va_E) {o : Nat} {fs : List Value} (hq0 : o ∈ L) (hf0 : f o = .inr (8, fs)) (x y z w : Int32) {D : List (String × Prop)} {ok : Int32 → PE → Prop} {bad : PE → Prop} (hc : Xi l yX6_rate wsX6_rate (rmH 6 3 18) g L f [.ref o, .int x, .int y, .int z] (fun r u => allD D ∧ ok r u) (fun E u => exL D E ∧ bad u) 3 18) (hD : ∀ q, q ∈ D → q.1 = IOX ∨ q.1 = IAX ∨ q.1 = ISX) : Ni l yL_act wsL_act (rmH 10 8 524) g L f [.ref o, .int 11, .int x, .int y, .int z, .int w] (AnP D ok bad) 8 524 := by
  intro sz
  refine vx_ofWH (cc := cL_act) (maxL := 7) (ret := some .int) (hh := [(0, 293, 294, 71), (0, 293, 299, 74), (0, 293, 304, 77)]) (by decide) rfl ?_
  intro p e s m args below meth c s₁ B hml hv
  obtain ⟨rfl, hv⟩ := hv
  have hx := B.exec
  have hb := B.bytes
  have hr := B.returns
  have hts := atoms_spec (ws := wsL_act) B.pre
  have hown : s.vm.findClass RL = some m.cls := findClass_of_methodNamed B.named
  have hlocks := B.notSynchronized
  have htab := vx_table (x := yL_act) B (hts (.codeWith yL_act cL_act 7 (some .int) [(0, 293, 294, 71), (0, 293, 299, 74), (0, 293, 304, 77)]) List.mem_cons_self)
  obtain ⟨⟨rfl, hw, hs⟩, hn⟩ := pn_begin hv
  generalize va_A (va_pl L f) s.heap.size = A at hw hs ⊢
  have CF := (⟨hx, hb, hml, hown, hts⟩ : CallFix p m c cL_act 7 s _ wsL_act RL)
  have hl := lv_entry ([.ref o, .int 11, .int x, .int y, .int z, .int w]) (n := 7) (Nat.le_of_ble_eq_true rfl)
  rw [lg_entry_eq]
  generalize (lg_sl ([.ref o, .int 11, .int x, .int y, .int z, .int w]) ++ List.replicate (7 - (lg_sl ([.ref o, .int 11, .int x, .int y, .int z, .int w])).length) Slot.unset).toArray = ls at hl ⊢
  have hl : lv_has ls 7 [(0, .ref o), (1, .int 11), (2, .int x), (3, .int y), (4, .int z), (5, .int w)] := hl
  refine lv_iload_n hx hb dL_act_0 rfl (lv_at hl 1 rfl) ?_
  refine lv_if_ne (tgt := 12) hx hb dL_act_1 (by decide) (fun _ => ?_) (fun h9 => absurd h9 (by decide))
  refine lv_iload_n hx hb dL_act_12 rfl (lv_at hl 1 rfl) ?_
  refine lv_iconst (v := 1) hx hb dL_act_13 (by decide) ?_
  refine lv_icmp_ne (tgt := 28) hx hb dL_act_14 (by decide) (fun _ => ?_) (fun h9 => absurd h9 (by decide))
  refine lv_iload_n hx hb dL_act_28 rfl (lv_at hl 1 rfl) ?_
  refine lv_iconst (v := 2) hx hb dL_act_29 (by decide) ?_
  refine lv_icmp_ne (tgt := 41) hx hb dL_act_30 (by decide) (fun _ => ?_) (fun h9 => absurd h9 (by decide))
  refine lv_iload_n hx hb dL_act_41 rfl (lv_at hl 1 rfl) ?_
  refine lv_iconst (v := 3) hx hb dL_act_42 (by decide) ?_
  refine lv_icmp_ne (tgt := 59) hx hb dL_act_43 (by decide) (fun _ => ?_) (fun h9 => absurd h9 (by decide))
  refine lv_iload_n hx hb dL_act_59 rfl (lv_at hl 1 rfl) ?_
  refine lv_iconst (v := 4) hx hb dL_act_60 (by decide) ?_
  refine lv_icmp_ne (tgt := 77) hx hb dL_act_61 (by decide) (fun _ => ?_) (fun h9 => absurd h9 (by decide))
  refine lv_iload_n hx hb dL_act_77 rfl (lv_at hl 1 rfl) ?_
  refine lv_iconst (v := 5) hx hb dL_act_78 (by decide) ?_
  refine lv_icmp_ne (tgt := 91) hx hb dL_act_79 (by decide) (fun _ => ?_) (fun h9 => absurd h9 (by decide))
  refine lv_iload_n hx hb dL_act_91 rfl (lv_at hl 1 rfl) ?_
  refine lv_bipush (v := 6) hx hb dL_act_92 (by decide) ?_
  refine lv_icmp_ne (tgt := 106) hx hb dL_act_94 (by decide) (fun _ => ?_) (fun h9 => absurd h9 (by decide))
  refine lv_iload_n hx hb dL_act_106 rfl (lv_at hl 1 rfl) ?_
  refine lv_bipush (v := 7) hx hb dL_act_107 (by decide) ?_
  refine lv_icmp_ne (tgt := 120) hx hb dL_act_109 (by decide) (fun _ => ?_) (fun h9 => absurd h9 (by decide))
  refine lv_iload_n hx hb dL_act_120 rfl (lv_at hl 1 rfl) ?_
  refine lv_bipush (v := 8) hx hb dL_act_121 (by decide) ?_
  refine lv_icmp_ne (tgt := 134) hx hb dL_act_123 (by decide) (fun _ => ?_) (fun h9 => absurd h9 (by decide))
  refine lv_iload_n hx hb dL_act_134 rfl (lv_at hl 1 rfl) ?_
  refine lv_bipush (v := 9) hx hb dL_act_135 (by decide) ?_
  refine lv_icmp_ne (tgt := 153) hx hb dL_act_137 (by decide) (fun _ => ?_) (fun h9 => absurd h9 (by decide))
  refine lv_iload_n hx hb dL_act_153 rfl (lv_at hl 1 rfl) ?_
  refine lv_bipush (v := 10) hx hb dL_act_154 (by decide) ?_
  refine lv_icmp_ne (tgt := 178) hx hb dL_act_156 (by decide) (fun _ => ?_) (fun h9 => absurd h9 (by decide))
  refine lv_iload_n hx hb dL_act_178 rfl (lv_at hl 1 rfl) ?_
  refine lv_bipush (v := 11) hx hb dL_act_179 (by decide) ?_
  refine lv_icmp_ne (tgt := 195) hx hb dL_act_181 (by decide) (fun h9 => absurd rfl h9) (fun _ => ?_)
  refine lv_aload_n hx hb dL_act_184 rfl (lv_at hl 0 rfl) ?_
  refine lv_iload_n hx hb dL_act_185 rfl (lv_at hl 2 rfl) ?_
  refine lv_iload_n hx hb dL_act_186 rfl (lv_at hl 3 rfl) ?_
  refine lv_iload hx hb dL_act_187 (lv_at hl 4 rfl) ?_
  refine px_ic hw (vx_runV (As := [.int x, .int y, .int z]) (rest := []) CF (hc _) (cwV 3 hts gL_act_X6_rate rfl rfl rfl (by decide +kernel) ⟨Nat.le_of_ble_eq_true rfl, Nat.le_of_ble_eq_true rfl⟩) (pm_preV hw hs (pm_recv hw hq0 hf0 rfl)) rfl rfl hl.1 rfl (lv_room (Nat.le_of_ble_eq_true rfl)) dL_act_189 ⟨Nat.le_of_ble_eq_true rfl, Nat.le_of_ble_eq_true rfl⟩) (fun E ce q9 L1 f1 H1 locs1 he hw1 h1 h2 h3 => ?_) (fun r L1 f1 H locs hp hw => ?_)
  · obtain ⟨q, hq, rfl⟩ := exL_mem _ he.1
    rcases hD q hq with e9 | e9 | e9
    · rw [e9] at h3 he
      refine vx_catch hown [] ⟨0, 293, 294, 71⟩ [⟨0, 293, 299, 74⟩, ⟨0, 293, 304, 77⟩] (by rw [htab]; rfl) (fun z hz => absurd hz List.not_mem_nil) (by decide) (by decide) (hts (.classLink RL 71 "java/lang/IndexOutOfBoundsException") (by decide +kernel)) (va_Nw.use rfl (hs.2.2.2.1 ("java/lang/IndexOutOfBoundsException", "java/lang/IndexOutOfBoundsException") (by decide +kernel))) h1 h2 h3 ?_
      refine lv_astore (lv' := [(6, .ref q9), (0, .ref o), (1, .int 11), (2, .int x), (3, .int y), (4, .int z), (5, .int w)]) hx hb dL_act_294 hl (by decide) rfl (fun ls hl => ?_)
      refine lv_ldc (v := (-90000001)) hx hb hown (hts (.constant RL 73 (-90000001)) (by decide +kernel)) dL_act_296 ?_
      exact vx_ret (pr_i (v := (-90000001)) hx hb hr hlocks hw1 rfl ⟨Nat.le_of_ble_eq_true rfl, Nat.le_of_ble_eq_true rfl⟩ (Or.inr ⟨_, he, cE_i.symm⟩) dL_act_298)
    · rw [e9] at h3 he
      refine vx_catch hown [⟨0, 293, 294, 71⟩] ⟨0, 293, 299, 74⟩ [⟨0, 293, 304, 77⟩] (by rw [htab]; rfl) (fun z hz => by
              simp only [List.mem_cons, List.not_mem_nil, or_false] at hz
              subst hz
              exact Or.inr ⟨by decide, "java/lang/IndexOutOfBoundsException", hts (.classLink RL 71 "java/lang/IndexOutOfBoundsException") (by decide +kernel), hn ("java/lang/IllegalArgumentException", "java/lang/IndexOutOfBoundsException") (by decide +kernel)⟩) (by decide) (by decide) (hts (.classLink RL 74 "java/lang/IllegalArgumentException") (by decide +kernel)) (va_Nw.use rfl (hs.2.2.2.1 ("java/lang/IllegalArgumentException", "java/lang/IllegalArgumentException") (by decide +kernel))) h1 h2 h3 ?_
      refine lv_astore (lv' := [(6, .ref q9), (0, .ref o), (1, .int 11), (2, .int x), (3, .int y), (4, .int z), (5, .int w)]) hx hb dL_act_299 hl (by decide) rfl (fun ls hl => ?_)
      refine lv_ldc (v := (-90000002)) hx hb hown (hts (.constant RL 76 (-90000002)) (by decide +kernel)) dL_act_301 ?_
      exact vx_ret (pr_i (v := (-90000002)) hx hb hr hlocks hw1 rfl ⟨Nat.le_of_ble_eq_true rfl, Nat.le_of_ble_eq_true rfl⟩ (Or.inr ⟨_, he, cE_a.symm⟩) dL_act_303)
    · rw [e9] at h3 he
      refine vx_catch hown [⟨0, 293, 294, 71⟩, ⟨0, 293, 299, 74⟩] ⟨0, 293, 304, 77⟩ [] (by rw [htab]; rfl) (fun z hz => by
              simp only [List.mem_cons, List.not_mem_nil, or_false] at hz
              rcases hz with rfl | rfl
              · exact Or.inr ⟨by decide, "java/lang/IndexOutOfBoundsException", hts (.classLink RL 71 "java/lang/IndexOutOfBoundsException") (by decide +kernel), hn ("java/lang/IllegalStateException", "java/lang/IndexOutOfBoundsException") (by decide +kernel)⟩
              · exact Or.inr ⟨by decide, "java/lang/IllegalArgumentException", hts (.classLink RL 74 "java/lang/IllegalArgumentException") (by decide +kernel), hn ("java/lang/IllegalStateException", "java/lang/IllegalArgumentException") (by decide +kernel)⟩) (by decide) (by decide) (hts (.classLink RL 77 "java/lang/IllegalStateException") (by decide +kernel)) (va_Nw.use rfl (hs.2.2.2.1 ("java/lang/IllegalStateException", "java/lang/IllegalStateException") (by decide +kernel))) h1 h2 h3 ?_
      refine lv_astore (lv' := [(6, .ref q9), (0, .ref o), (1, .int 11), (2, .int x), (3, .int y), (4, .int z), (5, .int w)]) hx hb dL_act_304 hl (by decide) rfl (fun ls hl => ?_)
      refine lv_ldc (v := (-90000003)) hx hb hown (hts (.constant RL 79 (-90000003)) (by decide +kernel)) dL_act_306 ?_
      exact vx_ret (pr_i (v := (-90000003)) hx hb hr hlocks hw1 rfl ⟨Nat.le_of_ble_eq_true rfl, Nat.le_of_ble_eq_true rfl⟩ (Or.inr ⟨_, he, cE_s.symm⟩) dL_act_308)
  · refine lv_goto (tgt := 293) hx hb dL_act_192 (by decide) ?_
    exact vx_ret (pr_i (v := r) hx hb hr hlocks hw rfl ⟨Nat.le_of_ble_eq_true rfl, Nat.le_of_ble_eq_true rfl⟩ (Or.inl hp) dL_act_293)

set_option maxHeartbeats 4000000 in
set_option maxRecDepth 100000 in
theorem act_segments (l : Launch) (g : GE) (L : List Nat) (f : Nat → va_E) {o : Nat} {fs : List Value} (hq0 : o ∈ L) (hf0 : f o = .inr (8, fs)) (x y z w : Int32) {D : List (String × Prop)} {ok : Int32 → PE → Prop} {bad : PE → Prop} (hc : Xi l yX6_segments wsX6_segments (rmH 6 2 12) g L f [.ref o, .int x, .int y] (fun r u => allD D ∧ ok r u) (fun E u => exL D E ∧ bad u) 2 12) (hD : ∀ q, q ∈ D → q.1 = IOX ∨ q.1 = IAX ∨ q.1 = ISX) : Ni l yL_act wsL_act (rmH 10 8 524) g L f [.ref o, .int 12, .int x, .int y, .int z, .int w] (AnP D ok bad) 8 524 := by
  intro sz
  refine vx_ofWH (cc := cL_act) (maxL := 7) (ret := some .int) (hh := [(0, 293, 294, 71), (0, 293, 299, 74), (0, 293, 304, 77)]) (by decide) rfl ?_
  intro p e s m args below meth c s₁ B hml hv
  obtain ⟨rfl, hv⟩ := hv
  have hx := B.exec
  have hb := B.bytes
  have hr := B.returns
  have hts := atoms_spec (ws := wsL_act) B.pre
  have hown : s.vm.findClass RL = some m.cls := findClass_of_methodNamed B.named
  have hlocks := B.notSynchronized
  have htab := vx_table (x := yL_act) B (hts (.codeWith yL_act cL_act 7 (some .int) [(0, 293, 294, 71), (0, 293, 299, 74), (0, 293, 304, 77)]) List.mem_cons_self)
  obtain ⟨⟨rfl, hw, hs⟩, hn⟩ := pn_begin hv
  generalize va_A (va_pl L f) s.heap.size = A at hw hs ⊢
  have CF := (⟨hx, hb, hml, hown, hts⟩ : CallFix p m c cL_act 7 s _ wsL_act RL)
  have hl := lv_entry ([.ref o, .int 12, .int x, .int y, .int z, .int w]) (n := 7) (Nat.le_of_ble_eq_true rfl)
  rw [lg_entry_eq]
  generalize (lg_sl ([.ref o, .int 12, .int x, .int y, .int z, .int w]) ++ List.replicate (7 - (lg_sl ([.ref o, .int 12, .int x, .int y, .int z, .int w])).length) Slot.unset).toArray = ls at hl ⊢
  have hl : lv_has ls 7 [(0, .ref o), (1, .int 12), (2, .int x), (3, .int y), (4, .int z), (5, .int w)] := hl
  refine lv_iload_n hx hb dL_act_0 rfl (lv_at hl 1 rfl) ?_
  refine lv_if_ne (tgt := 12) hx hb dL_act_1 (by decide) (fun _ => ?_) (fun h9 => absurd h9 (by decide))
  refine lv_iload_n hx hb dL_act_12 rfl (lv_at hl 1 rfl) ?_
  refine lv_iconst (v := 1) hx hb dL_act_13 (by decide) ?_
  refine lv_icmp_ne (tgt := 28) hx hb dL_act_14 (by decide) (fun _ => ?_) (fun h9 => absurd h9 (by decide))
  refine lv_iload_n hx hb dL_act_28 rfl (lv_at hl 1 rfl) ?_
  refine lv_iconst (v := 2) hx hb dL_act_29 (by decide) ?_
  refine lv_icmp_ne (tgt := 41) hx hb dL_act_30 (by decide) (fun _ => ?_) (fun h9 => absurd h9 (by decide))
  refine lv_iload_n hx hb dL_act_41 rfl (lv_at hl 1 rfl) ?_
  refine lv_iconst (v := 3) hx hb dL_act_42 (by decide) ?_
  refine lv_icmp_ne (tgt := 59) hx hb dL_act_43 (by decide) (fun _ => ?_) (fun h9 => absurd h9 (by decide))
  refine lv_iload_n hx hb dL_act_59 rfl (lv_at hl 1 rfl) ?_
  refine lv_iconst (v := 4) hx hb dL_act_60 (by decide) ?_
  refine lv_icmp_ne (tgt := 77) hx hb dL_act_61 (by decide) (fun _ => ?_) (fun h9 => absurd h9 (by decide))
  refine lv_iload_n hx hb dL_act_77 rfl (lv_at hl 1 rfl) ?_
  refine lv_iconst (v := 5) hx hb dL_act_78 (by decide) ?_
  refine lv_icmp_ne (tgt := 91) hx hb dL_act_79 (by decide) (fun _ => ?_) (fun h9 => absurd h9 (by decide))
  refine lv_iload_n hx hb dL_act_91 rfl (lv_at hl 1 rfl) ?_
  refine lv_bipush (v := 6) hx hb dL_act_92 (by decide) ?_
  refine lv_icmp_ne (tgt := 106) hx hb dL_act_94 (by decide) (fun _ => ?_) (fun h9 => absurd h9 (by decide))
  refine lv_iload_n hx hb dL_act_106 rfl (lv_at hl 1 rfl) ?_
  refine lv_bipush (v := 7) hx hb dL_act_107 (by decide) ?_
  refine lv_icmp_ne (tgt := 120) hx hb dL_act_109 (by decide) (fun _ => ?_) (fun h9 => absurd h9 (by decide))
  refine lv_iload_n hx hb dL_act_120 rfl (lv_at hl 1 rfl) ?_
  refine lv_bipush (v := 8) hx hb dL_act_121 (by decide) ?_
  refine lv_icmp_ne (tgt := 134) hx hb dL_act_123 (by decide) (fun _ => ?_) (fun h9 => absurd h9 (by decide))
  refine lv_iload_n hx hb dL_act_134 rfl (lv_at hl 1 rfl) ?_
  refine lv_bipush (v := 9) hx hb dL_act_135 (by decide) ?_
  refine lv_icmp_ne (tgt := 153) hx hb dL_act_137 (by decide) (fun _ => ?_) (fun h9 => absurd h9 (by decide))
  refine lv_iload_n hx hb dL_act_153 rfl (lv_at hl 1 rfl) ?_
  refine lv_bipush (v := 10) hx hb dL_act_154 (by decide) ?_
  refine lv_icmp_ne (tgt := 178) hx hb dL_act_156 (by decide) (fun _ => ?_) (fun h9 => absurd h9 (by decide))
  refine lv_iload_n hx hb dL_act_178 rfl (lv_at hl 1 rfl) ?_
  refine lv_bipush (v := 11) hx hb dL_act_179 (by decide) ?_
  refine lv_icmp_ne (tgt := 195) hx hb dL_act_181 (by decide) (fun _ => ?_) (fun h9 => absurd h9 (by decide))
  refine lv_iload_n hx hb dL_act_195 rfl (lv_at hl 1 rfl) ?_
  refine lv_bipush (v := 12) hx hb dL_act_196 (by decide) ?_
  refine lv_icmp_ne (tgt := 210) hx hb dL_act_198 (by decide) (fun h9 => absurd rfl h9) (fun _ => ?_)
  refine lv_aload_n hx hb dL_act_201 rfl (lv_at hl 0 rfl) ?_
  refine lv_iload_n hx hb dL_act_202 rfl (lv_at hl 2 rfl) ?_
  refine lv_iload_n hx hb dL_act_203 rfl (lv_at hl 3 rfl) ?_
  refine px_ic hw (vx_runV (As := [.int x, .int y]) (rest := []) CF (hc _) (cwV 2 hts gL_act_X6_segments rfl rfl rfl (by decide +kernel) ⟨Nat.le_of_ble_eq_true rfl, Nat.le_of_ble_eq_true rfl⟩) (pm_preV hw hs (pm_recv hw hq0 hf0 rfl)) rfl rfl hl.1 rfl (lv_room (Nat.le_of_ble_eq_true rfl)) dL_act_204 ⟨Nat.le_of_ble_eq_true rfl, Nat.le_of_ble_eq_true rfl⟩) (fun E ce q9 L1 f1 H1 locs1 he hw1 h1 h2 h3 => ?_) (fun r L1 f1 H locs hp hw => ?_)
  · obtain ⟨q, hq, rfl⟩ := exL_mem _ he.1
    rcases hD q hq with e9 | e9 | e9
    · rw [e9] at h3 he
      refine vx_catch hown [] ⟨0, 293, 294, 71⟩ [⟨0, 293, 299, 74⟩, ⟨0, 293, 304, 77⟩] (by rw [htab]; rfl) (fun z hz => absurd hz List.not_mem_nil) (by decide) (by decide) (hts (.classLink RL 71 "java/lang/IndexOutOfBoundsException") (by decide +kernel)) (va_Nw.use rfl (hs.2.2.2.1 ("java/lang/IndexOutOfBoundsException", "java/lang/IndexOutOfBoundsException") (by decide +kernel))) h1 h2 h3 ?_
      refine lv_astore (lv' := [(6, .ref q9), (0, .ref o), (1, .int 12), (2, .int x), (3, .int y), (4, .int z), (5, .int w)]) hx hb dL_act_294 hl (by decide) rfl (fun ls hl => ?_)
      refine lv_ldc (v := (-90000001)) hx hb hown (hts (.constant RL 73 (-90000001)) (by decide +kernel)) dL_act_296 ?_
      exact vx_ret (pr_i (v := (-90000001)) hx hb hr hlocks hw1 rfl ⟨Nat.le_of_ble_eq_true rfl, Nat.le_of_ble_eq_true rfl⟩ (Or.inr ⟨_, he, cE_i.symm⟩) dL_act_298)
    · rw [e9] at h3 he
      refine vx_catch hown [⟨0, 293, 294, 71⟩] ⟨0, 293, 299, 74⟩ [⟨0, 293, 304, 77⟩] (by rw [htab]; rfl) (fun z hz => by
              simp only [List.mem_cons, List.not_mem_nil, or_false] at hz
              subst hz
              exact Or.inr ⟨by decide, "java/lang/IndexOutOfBoundsException", hts (.classLink RL 71 "java/lang/IndexOutOfBoundsException") (by decide +kernel), hn ("java/lang/IllegalArgumentException", "java/lang/IndexOutOfBoundsException") (by decide +kernel)⟩) (by decide) (by decide) (hts (.classLink RL 74 "java/lang/IllegalArgumentException") (by decide +kernel)) (va_Nw.use rfl (hs.2.2.2.1 ("java/lang/IllegalArgumentException", "java/lang/IllegalArgumentException") (by decide +kernel))) h1 h2 h3 ?_
      refine lv_astore (lv' := [(6, .ref q9), (0, .ref o), (1, .int 12), (2, .int x), (3, .int y), (4, .int z), (5, .int w)]) hx hb dL_act_299 hl (by decide) rfl (fun ls hl => ?_)
      refine lv_ldc (v := (-90000002)) hx hb hown (hts (.constant RL 76 (-90000002)) (by decide +kernel)) dL_act_301 ?_
      exact vx_ret (pr_i (v := (-90000002)) hx hb hr hlocks hw1 rfl ⟨Nat.le_of_ble_eq_true rfl, Nat.le_of_ble_eq_true rfl⟩ (Or.inr ⟨_, he, cE_a.symm⟩) dL_act_303)
    · rw [e9] at h3 he
      refine vx_catch hown [⟨0, 293, 294, 71⟩, ⟨0, 293, 299, 74⟩] ⟨0, 293, 304, 77⟩ [] (by rw [htab]; rfl) (fun z hz => by
              simp only [List.mem_cons, List.not_mem_nil, or_false] at hz
              rcases hz with rfl | rfl
              · exact Or.inr ⟨by decide, "java/lang/IndexOutOfBoundsException", hts (.classLink RL 71 "java/lang/IndexOutOfBoundsException") (by decide +kernel), hn ("java/lang/IllegalStateException", "java/lang/IndexOutOfBoundsException") (by decide +kernel)⟩
              · exact Or.inr ⟨by decide, "java/lang/IllegalArgumentException", hts (.classLink RL 74 "java/lang/IllegalArgumentException") (by decide +kernel), hn ("java/lang/IllegalStateException", "java/lang/IllegalArgumentException") (by decide +kernel)⟩) (by decide) (by decide) (hts (.classLink RL 77 "java/lang/IllegalStateException") (by decide +kernel)) (va_Nw.use rfl (hs.2.2.2.1 ("java/lang/IllegalStateException", "java/lang/IllegalStateException") (by decide +kernel))) h1 h2 h3 ?_
      refine lv_astore (lv' := [(6, .ref q9), (0, .ref o), (1, .int 12), (2, .int x), (3, .int y), (4, .int z), (5, .int w)]) hx hb dL_act_304 hl (by decide) rfl (fun ls hl => ?_)
      refine lv_ldc (v := (-90000003)) hx hb hown (hts (.constant RL 79 (-90000003)) (by decide +kernel)) dL_act_306 ?_
      exact vx_ret (pr_i (v := (-90000003)) hx hb hr hlocks hw1 rfl ⟨Nat.le_of_ble_eq_true rfl, Nat.le_of_ble_eq_true rfl⟩ (Or.inr ⟨_, he, cE_s.symm⟩) dL_act_308)
  · refine lv_goto (tgt := 293) hx hb dL_act_207 (by decide) ?_
    exact vx_ret (pr_i (v := r) hx hb hr hlocks hw rfl ⟨Nat.le_of_ble_eq_true rfl, Nat.le_of_ble_eq_true rfl⟩ (Or.inl hp) dL_act_293)

set_option maxHeartbeats 4000000 in
set_option maxRecDepth 100000 in
theorem act_segmentStart (l : Launch) (g : GE) (L : List Nat) (f : Nat → va_E) {o : Nat} {fs : List Value} (hq0 : o ∈ L) (hf0 : f o = .inr (8, fs)) (x y z w : Int32) {D : List (String × Prop)} {ok : Int32 → PE → Prop} {bad : PE → Prop} (hc : Xi l yX6_segmentStart wsX6_segmentStart (rmH 7 3 18) g L f [.ref o, .int x, .int y, .int z] (fun r u => allD D ∧ ok r u) (fun E u => exL D E ∧ bad u) 3 18) (hD : ∀ q, q ∈ D → q.1 = IOX ∨ q.1 = IAX ∨ q.1 = ISX) : Ni l yL_act wsL_act (rmH 10 8 524) g L f [.ref o, .int 13, .int x, .int y, .int z, .int w] (AnP D ok bad) 8 524 := by
  intro sz
  refine vx_ofWH (cc := cL_act) (maxL := 7) (ret := some .int) (hh := [(0, 293, 294, 71), (0, 293, 299, 74), (0, 293, 304, 77)]) (by decide) rfl ?_
  intro p e s m args below meth c s₁ B hml hv
  obtain ⟨rfl, hv⟩ := hv
  have hx := B.exec
  have hb := B.bytes
  have hr := B.returns
  have hts := atoms_spec (ws := wsL_act) B.pre
  have hown : s.vm.findClass RL = some m.cls := findClass_of_methodNamed B.named
  have hlocks := B.notSynchronized
  have htab := vx_table (x := yL_act) B (hts (.codeWith yL_act cL_act 7 (some .int) [(0, 293, 294, 71), (0, 293, 299, 74), (0, 293, 304, 77)]) List.mem_cons_self)
  obtain ⟨⟨rfl, hw, hs⟩, hn⟩ := pn_begin hv
  generalize va_A (va_pl L f) s.heap.size = A at hw hs ⊢
  have CF := (⟨hx, hb, hml, hown, hts⟩ : CallFix p m c cL_act 7 s _ wsL_act RL)
  have hl := lv_entry ([.ref o, .int 13, .int x, .int y, .int z, .int w]) (n := 7) (Nat.le_of_ble_eq_true rfl)
  rw [lg_entry_eq]
  generalize (lg_sl ([.ref o, .int 13, .int x, .int y, .int z, .int w]) ++ List.replicate (7 - (lg_sl ([.ref o, .int 13, .int x, .int y, .int z, .int w])).length) Slot.unset).toArray = ls at hl ⊢
  have hl : lv_has ls 7 [(0, .ref o), (1, .int 13), (2, .int x), (3, .int y), (4, .int z), (5, .int w)] := hl
  refine lv_iload_n hx hb dL_act_0 rfl (lv_at hl 1 rfl) ?_
  refine lv_if_ne (tgt := 12) hx hb dL_act_1 (by decide) (fun _ => ?_) (fun h9 => absurd h9 (by decide))
  refine lv_iload_n hx hb dL_act_12 rfl (lv_at hl 1 rfl) ?_
  refine lv_iconst (v := 1) hx hb dL_act_13 (by decide) ?_
  refine lv_icmp_ne (tgt := 28) hx hb dL_act_14 (by decide) (fun _ => ?_) (fun h9 => absurd h9 (by decide))
  refine lv_iload_n hx hb dL_act_28 rfl (lv_at hl 1 rfl) ?_
  refine lv_iconst (v := 2) hx hb dL_act_29 (by decide) ?_
  refine lv_icmp_ne (tgt := 41) hx hb dL_act_30 (by decide) (fun _ => ?_) (fun h9 => absurd h9 (by decide))
  refine lv_iload_n hx hb dL_act_41 rfl (lv_at hl 1 rfl) ?_
  refine lv_iconst (v := 3) hx hb dL_act_42 (by decide) ?_
  refine lv_icmp_ne (tgt := 59) hx hb dL_act_43 (by decide) (fun _ => ?_) (fun h9 => absurd h9 (by decide))
  refine lv_iload_n hx hb dL_act_59 rfl (lv_at hl 1 rfl) ?_
  refine lv_iconst (v := 4) hx hb dL_act_60 (by decide) ?_
  refine lv_icmp_ne (tgt := 77) hx hb dL_act_61 (by decide) (fun _ => ?_) (fun h9 => absurd h9 (by decide))
  refine lv_iload_n hx hb dL_act_77 rfl (lv_at hl 1 rfl) ?_
  refine lv_iconst (v := 5) hx hb dL_act_78 (by decide) ?_
  refine lv_icmp_ne (tgt := 91) hx hb dL_act_79 (by decide) (fun _ => ?_) (fun h9 => absurd h9 (by decide))
  refine lv_iload_n hx hb dL_act_91 rfl (lv_at hl 1 rfl) ?_
  refine lv_bipush (v := 6) hx hb dL_act_92 (by decide) ?_
  refine lv_icmp_ne (tgt := 106) hx hb dL_act_94 (by decide) (fun _ => ?_) (fun h9 => absurd h9 (by decide))
  refine lv_iload_n hx hb dL_act_106 rfl (lv_at hl 1 rfl) ?_
  refine lv_bipush (v := 7) hx hb dL_act_107 (by decide) ?_
  refine lv_icmp_ne (tgt := 120) hx hb dL_act_109 (by decide) (fun _ => ?_) (fun h9 => absurd h9 (by decide))
  refine lv_iload_n hx hb dL_act_120 rfl (lv_at hl 1 rfl) ?_
  refine lv_bipush (v := 8) hx hb dL_act_121 (by decide) ?_
  refine lv_icmp_ne (tgt := 134) hx hb dL_act_123 (by decide) (fun _ => ?_) (fun h9 => absurd h9 (by decide))
  refine lv_iload_n hx hb dL_act_134 rfl (lv_at hl 1 rfl) ?_
  refine lv_bipush (v := 9) hx hb dL_act_135 (by decide) ?_
  refine lv_icmp_ne (tgt := 153) hx hb dL_act_137 (by decide) (fun _ => ?_) (fun h9 => absurd h9 (by decide))
  refine lv_iload_n hx hb dL_act_153 rfl (lv_at hl 1 rfl) ?_
  refine lv_bipush (v := 10) hx hb dL_act_154 (by decide) ?_
  refine lv_icmp_ne (tgt := 178) hx hb dL_act_156 (by decide) (fun _ => ?_) (fun h9 => absurd h9 (by decide))
  refine lv_iload_n hx hb dL_act_178 rfl (lv_at hl 1 rfl) ?_
  refine lv_bipush (v := 11) hx hb dL_act_179 (by decide) ?_
  refine lv_icmp_ne (tgt := 195) hx hb dL_act_181 (by decide) (fun _ => ?_) (fun h9 => absurd h9 (by decide))
  refine lv_iload_n hx hb dL_act_195 rfl (lv_at hl 1 rfl) ?_
  refine lv_bipush (v := 12) hx hb dL_act_196 (by decide) ?_
  refine lv_icmp_ne (tgt := 210) hx hb dL_act_198 (by decide) (fun _ => ?_) (fun h9 => absurd h9 (by decide))
  refine lv_iload_n hx hb dL_act_210 rfl (lv_at hl 1 rfl) ?_
  refine lv_bipush (v := 13) hx hb dL_act_211 (by decide) ?_
  refine lv_icmp_ne (tgt := 227) hx hb dL_act_213 (by decide) (fun h9 => absurd rfl h9) (fun _ => ?_)
  refine lv_aload_n hx hb dL_act_216 rfl (lv_at hl 0 rfl) ?_
  refine lv_iload_n hx hb dL_act_217 rfl (lv_at hl 2 rfl) ?_
  refine lv_iload_n hx hb dL_act_218 rfl (lv_at hl 3 rfl) ?_
  refine lv_iload hx hb dL_act_219 (lv_at hl 4 rfl) ?_
  refine px_ic hw (vx_runV (As := [.int x, .int y, .int z]) (rest := []) CF (hc _) (cwV 3 hts gL_act_X6_segmentStart rfl rfl rfl (by decide +kernel) ⟨Nat.le_of_ble_eq_true rfl, Nat.le_of_ble_eq_true rfl⟩) (pm_preV hw hs (pm_recv hw hq0 hf0 rfl)) rfl rfl hl.1 rfl (lv_room (Nat.le_of_ble_eq_true rfl)) dL_act_221 ⟨Nat.le_of_ble_eq_true rfl, Nat.le_of_ble_eq_true rfl⟩) (fun E ce q9 L1 f1 H1 locs1 he hw1 h1 h2 h3 => ?_) (fun r L1 f1 H locs hp hw => ?_)
  · obtain ⟨q, hq, rfl⟩ := exL_mem _ he.1
    rcases hD q hq with e9 | e9 | e9
    · rw [e9] at h3 he
      refine vx_catch hown [] ⟨0, 293, 294, 71⟩ [⟨0, 293, 299, 74⟩, ⟨0, 293, 304, 77⟩] (by rw [htab]; rfl) (fun z hz => absurd hz List.not_mem_nil) (by decide) (by decide) (hts (.classLink RL 71 "java/lang/IndexOutOfBoundsException") (by decide +kernel)) (va_Nw.use rfl (hs.2.2.2.1 ("java/lang/IndexOutOfBoundsException", "java/lang/IndexOutOfBoundsException") (by decide +kernel))) h1 h2 h3 ?_
      refine lv_astore (lv' := [(6, .ref q9), (0, .ref o), (1, .int 13), (2, .int x), (3, .int y), (4, .int z), (5, .int w)]) hx hb dL_act_294 hl (by decide) rfl (fun ls hl => ?_)
      refine lv_ldc (v := (-90000001)) hx hb hown (hts (.constant RL 73 (-90000001)) (by decide +kernel)) dL_act_296 ?_
      exact vx_ret (pr_i (v := (-90000001)) hx hb hr hlocks hw1 rfl ⟨Nat.le_of_ble_eq_true rfl, Nat.le_of_ble_eq_true rfl⟩ (Or.inr ⟨_, he, cE_i.symm⟩) dL_act_298)
    · rw [e9] at h3 he
      refine vx_catch hown [⟨0, 293, 294, 71⟩] ⟨0, 293, 299, 74⟩ [⟨0, 293, 304, 77⟩] (by rw [htab]; rfl) (fun z hz => by
              simp only [List.mem_cons, List.not_mem_nil, or_false] at hz
              subst hz
              exact Or.inr ⟨by decide, "java/lang/IndexOutOfBoundsException", hts (.classLink RL 71 "java/lang/IndexOutOfBoundsException") (by decide +kernel), hn ("java/lang/IllegalArgumentException", "java/lang/IndexOutOfBoundsException") (by decide +kernel)⟩) (by decide) (by decide) (hts (.classLink RL 74 "java/lang/IllegalArgumentException") (by decide +kernel)) (va_Nw.use rfl (hs.2.2.2.1 ("java/lang/IllegalArgumentException", "java/lang/IllegalArgumentException") (by decide +kernel))) h1 h2 h3 ?_
      refine lv_astore (lv' := [(6, .ref q9), (0, .ref o), (1, .int 13), (2, .int x), (3, .int y), (4, .int z), (5, .int w)]) hx hb dL_act_299 hl (by decide) rfl (fun ls hl => ?_)
      refine lv_ldc (v := (-90000002)) hx hb hown (hts (.constant RL 76 (-90000002)) (by decide +kernel)) dL_act_301 ?_
      exact vx_ret (pr_i (v := (-90000002)) hx hb hr hlocks hw1 rfl ⟨Nat.le_of_ble_eq_true rfl, Nat.le_of_ble_eq_true rfl⟩ (Or.inr ⟨_, he, cE_a.symm⟩) dL_act_303)
    · rw [e9] at h3 he
      refine vx_catch hown [⟨0, 293, 294, 71⟩, ⟨0, 293, 299, 74⟩] ⟨0, 293, 304, 77⟩ [] (by rw [htab]; rfl) (fun z hz => by
              simp only [List.mem_cons, List.not_mem_nil, or_false] at hz
              rcases hz with rfl | rfl
              · exact Or.inr ⟨by decide, "java/lang/IndexOutOfBoundsException", hts (.classLink RL 71 "java/lang/IndexOutOfBoundsException") (by decide +kernel), hn ("java/lang/IllegalStateException", "java/lang/IndexOutOfBoundsException") (by decide +kernel)⟩
              · exact Or.inr ⟨by decide, "java/lang/IllegalArgumentException", hts (.classLink RL 74 "java/lang/IllegalArgumentException") (by decide +kernel), hn ("java/lang/IllegalStateException", "java/lang/IllegalArgumentException") (by decide +kernel)⟩) (by decide) (by decide) (hts (.classLink RL 77 "java/lang/IllegalStateException") (by decide +kernel)) (va_Nw.use rfl (hs.2.2.2.1 ("java/lang/IllegalStateException", "java/lang/IllegalStateException") (by decide +kernel))) h1 h2 h3 ?_
      refine lv_astore (lv' := [(6, .ref q9), (0, .ref o), (1, .int 13), (2, .int x), (3, .int y), (4, .int z), (5, .int w)]) hx hb dL_act_304 hl (by decide) rfl (fun ls hl => ?_)
      refine lv_ldc (v := (-90000003)) hx hb hown (hts (.constant RL 79 (-90000003)) (by decide +kernel)) dL_act_306 ?_
      exact vx_ret (pr_i (v := (-90000003)) hx hb hr hlocks hw1 rfl ⟨Nat.le_of_ble_eq_true rfl, Nat.le_of_ble_eq_true rfl⟩ (Or.inr ⟨_, he, cE_s.symm⟩) dL_act_308)
  · refine lv_goto (tgt := 293) hx hb dL_act_224 (by decide) ?_
    exact vx_ret (pr_i (v := r) hx hb hr hlocks hw rfl ⟨Nat.le_of_ble_eq_true rfl, Nat.le_of_ble_eq_true rfl⟩ (Or.inl hp) dL_act_293)

set_option maxHeartbeats 4000000 in
set_option maxRecDepth 100000 in
theorem act_segmentPremium (l : Launch) (g : GE) (L : List Nat) (f : Nat → va_E) {o : Nat} {fs : List Value} (hq0 : o ∈ L) (hf0 : f o = .inr (8, fs)) (x y z w : Int32) {D : List (String × Prop)} {ok : Int32 → PE → Prop} {bad : PE → Prop} (hc : Xi l yX6_segmentPremium wsX6_segmentPremium (rmH 7 3 18) g L f [.ref o, .int x, .int y, .int z] (fun r u => allD D ∧ ok r u) (fun E u => exL D E ∧ bad u) 3 18) (hD : ∀ q, q ∈ D → q.1 = IOX ∨ q.1 = IAX ∨ q.1 = ISX) : Ni l yL_act wsL_act (rmH 10 8 524) g L f [.ref o, .int 14, .int x, .int y, .int z, .int w] (AnP D ok bad) 8 524 := by
  intro sz
  refine vx_ofWH (cc := cL_act) (maxL := 7) (ret := some .int) (hh := [(0, 293, 294, 71), (0, 293, 299, 74), (0, 293, 304, 77)]) (by decide) rfl ?_
  intro p e s m args below meth c s₁ B hml hv
  obtain ⟨rfl, hv⟩ := hv
  have hx := B.exec
  have hb := B.bytes
  have hr := B.returns
  have hts := atoms_spec (ws := wsL_act) B.pre
  have hown : s.vm.findClass RL = some m.cls := findClass_of_methodNamed B.named
  have hlocks := B.notSynchronized
  have htab := vx_table (x := yL_act) B (hts (.codeWith yL_act cL_act 7 (some .int) [(0, 293, 294, 71), (0, 293, 299, 74), (0, 293, 304, 77)]) List.mem_cons_self)
  obtain ⟨⟨rfl, hw, hs⟩, hn⟩ := pn_begin hv
  generalize va_A (va_pl L f) s.heap.size = A at hw hs ⊢
  have CF := (⟨hx, hb, hml, hown, hts⟩ : CallFix p m c cL_act 7 s _ wsL_act RL)
  have hl := lv_entry ([.ref o, .int 14, .int x, .int y, .int z, .int w]) (n := 7) (Nat.le_of_ble_eq_true rfl)
  rw [lg_entry_eq]
  generalize (lg_sl ([.ref o, .int 14, .int x, .int y, .int z, .int w]) ++ List.replicate (7 - (lg_sl ([.ref o, .int 14, .int x, .int y, .int z, .int w])).length) Slot.unset).toArray = ls at hl ⊢
  have hl : lv_has ls 7 [(0, .ref o), (1, .int 14), (2, .int x), (3, .int y), (4, .int z), (5, .int w)] := hl
  refine lv_iload_n hx hb dL_act_0 rfl (lv_at hl 1 rfl) ?_
  refine lv_if_ne (tgt := 12) hx hb dL_act_1 (by decide) (fun _ => ?_) (fun h9 => absurd h9 (by decide))
  refine lv_iload_n hx hb dL_act_12 rfl (lv_at hl 1 rfl) ?_
  refine lv_iconst (v := 1) hx hb dL_act_13 (by decide) ?_
  refine lv_icmp_ne (tgt := 28) hx hb dL_act_14 (by decide) (fun _ => ?_) (fun h9 => absurd h9 (by decide))
  refine lv_iload_n hx hb dL_act_28 rfl (lv_at hl 1 rfl) ?_
  refine lv_iconst (v := 2) hx hb dL_act_29 (by decide) ?_
  refine lv_icmp_ne (tgt := 41) hx hb dL_act_30 (by decide) (fun _ => ?_) (fun h9 => absurd h9 (by decide))
  refine lv_iload_n hx hb dL_act_41 rfl (lv_at hl 1 rfl) ?_
  refine lv_iconst (v := 3) hx hb dL_act_42 (by decide) ?_
  refine lv_icmp_ne (tgt := 59) hx hb dL_act_43 (by decide) (fun _ => ?_) (fun h9 => absurd h9 (by decide))
  refine lv_iload_n hx hb dL_act_59 rfl (lv_at hl 1 rfl) ?_
  refine lv_iconst (v := 4) hx hb dL_act_60 (by decide) ?_
  refine lv_icmp_ne (tgt := 77) hx hb dL_act_61 (by decide) (fun _ => ?_) (fun h9 => absurd h9 (by decide))
  refine lv_iload_n hx hb dL_act_77 rfl (lv_at hl 1 rfl) ?_
  refine lv_iconst (v := 5) hx hb dL_act_78 (by decide) ?_
  refine lv_icmp_ne (tgt := 91) hx hb dL_act_79 (by decide) (fun _ => ?_) (fun h9 => absurd h9 (by decide))
  refine lv_iload_n hx hb dL_act_91 rfl (lv_at hl 1 rfl) ?_
  refine lv_bipush (v := 6) hx hb dL_act_92 (by decide) ?_
  refine lv_icmp_ne (tgt := 106) hx hb dL_act_94 (by decide) (fun _ => ?_) (fun h9 => absurd h9 (by decide))
  refine lv_iload_n hx hb dL_act_106 rfl (lv_at hl 1 rfl) ?_
  refine lv_bipush (v := 7) hx hb dL_act_107 (by decide) ?_
  refine lv_icmp_ne (tgt := 120) hx hb dL_act_109 (by decide) (fun _ => ?_) (fun h9 => absurd h9 (by decide))
  refine lv_iload_n hx hb dL_act_120 rfl (lv_at hl 1 rfl) ?_
  refine lv_bipush (v := 8) hx hb dL_act_121 (by decide) ?_
  refine lv_icmp_ne (tgt := 134) hx hb dL_act_123 (by decide) (fun _ => ?_) (fun h9 => absurd h9 (by decide))
  refine lv_iload_n hx hb dL_act_134 rfl (lv_at hl 1 rfl) ?_
  refine lv_bipush (v := 9) hx hb dL_act_135 (by decide) ?_
  refine lv_icmp_ne (tgt := 153) hx hb dL_act_137 (by decide) (fun _ => ?_) (fun h9 => absurd h9 (by decide))
  refine lv_iload_n hx hb dL_act_153 rfl (lv_at hl 1 rfl) ?_
  refine lv_bipush (v := 10) hx hb dL_act_154 (by decide) ?_
  refine lv_icmp_ne (tgt := 178) hx hb dL_act_156 (by decide) (fun _ => ?_) (fun h9 => absurd h9 (by decide))
  refine lv_iload_n hx hb dL_act_178 rfl (lv_at hl 1 rfl) ?_
  refine lv_bipush (v := 11) hx hb dL_act_179 (by decide) ?_
  refine lv_icmp_ne (tgt := 195) hx hb dL_act_181 (by decide) (fun _ => ?_) (fun h9 => absurd h9 (by decide))
  refine lv_iload_n hx hb dL_act_195 rfl (lv_at hl 1 rfl) ?_
  refine lv_bipush (v := 12) hx hb dL_act_196 (by decide) ?_
  refine lv_icmp_ne (tgt := 210) hx hb dL_act_198 (by decide) (fun _ => ?_) (fun h9 => absurd h9 (by decide))
  refine lv_iload_n hx hb dL_act_210 rfl (lv_at hl 1 rfl) ?_
  refine lv_bipush (v := 13) hx hb dL_act_211 (by decide) ?_
  refine lv_icmp_ne (tgt := 227) hx hb dL_act_213 (by decide) (fun _ => ?_) (fun h9 => absurd h9 (by decide))
  refine lv_iload_n hx hb dL_act_227 rfl (lv_at hl 1 rfl) ?_
  refine lv_bipush (v := 14) hx hb dL_act_228 (by decide) ?_
  refine lv_icmp_ne (tgt := 244) hx hb dL_act_230 (by decide) (fun h9 => absurd rfl h9) (fun _ => ?_)
  refine lv_aload_n hx hb dL_act_233 rfl (lv_at hl 0 rfl) ?_
  refine lv_iload_n hx hb dL_act_234 rfl (lv_at hl 2 rfl) ?_
  refine lv_iload_n hx hb dL_act_235 rfl (lv_at hl 3 rfl) ?_
  refine lv_iload hx hb dL_act_236 (lv_at hl 4 rfl) ?_
  refine px_ic hw (vx_runV (As := [.int x, .int y, .int z]) (rest := []) CF (hc _) (cwV 3 hts gL_act_X6_segmentPremium rfl rfl rfl (by decide +kernel) ⟨Nat.le_of_ble_eq_true rfl, Nat.le_of_ble_eq_true rfl⟩) (pm_preV hw hs (pm_recv hw hq0 hf0 rfl)) rfl rfl hl.1 rfl (lv_room (Nat.le_of_ble_eq_true rfl)) dL_act_238 ⟨Nat.le_of_ble_eq_true rfl, Nat.le_of_ble_eq_true rfl⟩) (fun E ce q9 L1 f1 H1 locs1 he hw1 h1 h2 h3 => ?_) (fun r L1 f1 H locs hp hw => ?_)
  · obtain ⟨q, hq, rfl⟩ := exL_mem _ he.1
    rcases hD q hq with e9 | e9 | e9
    · rw [e9] at h3 he
      refine vx_catch hown [] ⟨0, 293, 294, 71⟩ [⟨0, 293, 299, 74⟩, ⟨0, 293, 304, 77⟩] (by rw [htab]; rfl) (fun z hz => absurd hz List.not_mem_nil) (by decide) (by decide) (hts (.classLink RL 71 "java/lang/IndexOutOfBoundsException") (by decide +kernel)) (va_Nw.use rfl (hs.2.2.2.1 ("java/lang/IndexOutOfBoundsException", "java/lang/IndexOutOfBoundsException") (by decide +kernel))) h1 h2 h3 ?_
      refine lv_astore (lv' := [(6, .ref q9), (0, .ref o), (1, .int 14), (2, .int x), (3, .int y), (4, .int z), (5, .int w)]) hx hb dL_act_294 hl (by decide) rfl (fun ls hl => ?_)
      refine lv_ldc (v := (-90000001)) hx hb hown (hts (.constant RL 73 (-90000001)) (by decide +kernel)) dL_act_296 ?_
      exact vx_ret (pr_i (v := (-90000001)) hx hb hr hlocks hw1 rfl ⟨Nat.le_of_ble_eq_true rfl, Nat.le_of_ble_eq_true rfl⟩ (Or.inr ⟨_, he, cE_i.symm⟩) dL_act_298)
    · rw [e9] at h3 he
      refine vx_catch hown [⟨0, 293, 294, 71⟩] ⟨0, 293, 299, 74⟩ [⟨0, 293, 304, 77⟩] (by rw [htab]; rfl) (fun z hz => by
              simp only [List.mem_cons, List.not_mem_nil, or_false] at hz
              subst hz
              exact Or.inr ⟨by decide, "java/lang/IndexOutOfBoundsException", hts (.classLink RL 71 "java/lang/IndexOutOfBoundsException") (by decide +kernel), hn ("java/lang/IllegalArgumentException", "java/lang/IndexOutOfBoundsException") (by decide +kernel)⟩) (by decide) (by decide) (hts (.classLink RL 74 "java/lang/IllegalArgumentException") (by decide +kernel)) (va_Nw.use rfl (hs.2.2.2.1 ("java/lang/IllegalArgumentException", "java/lang/IllegalArgumentException") (by decide +kernel))) h1 h2 h3 ?_
      refine lv_astore (lv' := [(6, .ref q9), (0, .ref o), (1, .int 14), (2, .int x), (3, .int y), (4, .int z), (5, .int w)]) hx hb dL_act_299 hl (by decide) rfl (fun ls hl => ?_)
      refine lv_ldc (v := (-90000002)) hx hb hown (hts (.constant RL 76 (-90000002)) (by decide +kernel)) dL_act_301 ?_
      exact vx_ret (pr_i (v := (-90000002)) hx hb hr hlocks hw1 rfl ⟨Nat.le_of_ble_eq_true rfl, Nat.le_of_ble_eq_true rfl⟩ (Or.inr ⟨_, he, cE_a.symm⟩) dL_act_303)
    · rw [e9] at h3 he
      refine vx_catch hown [⟨0, 293, 294, 71⟩, ⟨0, 293, 299, 74⟩] ⟨0, 293, 304, 77⟩ [] (by rw [htab]; rfl) (fun z hz => by
              simp only [List.mem_cons, List.not_mem_nil, or_false] at hz
              rcases hz with rfl | rfl
              · exact Or.inr ⟨by decide, "java/lang/IndexOutOfBoundsException", hts (.classLink RL 71 "java/lang/IndexOutOfBoundsException") (by decide +kernel), hn ("java/lang/IllegalStateException", "java/lang/IndexOutOfBoundsException") (by decide +kernel)⟩
              · exact Or.inr ⟨by decide, "java/lang/IllegalArgumentException", hts (.classLink RL 74 "java/lang/IllegalArgumentException") (by decide +kernel), hn ("java/lang/IllegalStateException", "java/lang/IllegalArgumentException") (by decide +kernel)⟩) (by decide) (by decide) (hts (.classLink RL 77 "java/lang/IllegalStateException") (by decide +kernel)) (va_Nw.use rfl (hs.2.2.2.1 ("java/lang/IllegalStateException", "java/lang/IllegalStateException") (by decide +kernel))) h1 h2 h3 ?_
      refine lv_astore (lv' := [(6, .ref q9), (0, .ref o), (1, .int 14), (2, .int x), (3, .int y), (4, .int z), (5, .int w)]) hx hb dL_act_304 hl (by decide) rfl (fun ls hl => ?_)
      refine lv_ldc (v := (-90000003)) hx hb hown (hts (.constant RL 79 (-90000003)) (by decide +kernel)) dL_act_306 ?_
      exact vx_ret (pr_i (v := (-90000003)) hx hb hr hlocks hw1 rfl ⟨Nat.le_of_ble_eq_true rfl, Nat.le_of_ble_eq_true rfl⟩ (Or.inr ⟨_, he, cE_s.symm⟩) dL_act_308)
  · refine lv_goto (tgt := 293) hx hb dL_act_241 (by decide) ?_
    exact vx_ret (pr_i (v := r) hx hb hr hlocks hw rfl ⟨Nat.le_of_ble_eq_true rfl, Nat.le_of_ble_eq_true rfl⟩ (Or.inl hp) dL_act_293)

set_option maxHeartbeats 4000000 in
set_option maxRecDepth 100000 in
theorem act_premium (l : Launch) (g : GE) (L : List Nat) (f : Nat → va_E) {o : Nat} {fs : List Value} (hq0 : o ∈ L) (hf0 : f o = .inr (8, fs)) (x y z w : Int32) {D : List (String × Prop)} {ok : Int32 → PE → Prop} {bad : PE → Prop} (hc : Xi l yX6_premium wsX6_premium (rmH 7 2 12) g L f [.ref o, .int x, .int y] (fun r u => allD D ∧ ok r u) (fun E u => exL D E ∧ bad u) 2 12) (hD : ∀ q, q ∈ D → q.1 = IOX ∨ q.1 = IAX ∨ q.1 = ISX) : Ni l yL_act wsL_act (rmH 10 8 524) g L f [.ref o, .int 15, .int x, .int y, .int z, .int w] (AnP D ok bad) 8 524 := by
  intro sz
  refine vx_ofWH (cc := cL_act) (maxL := 7) (ret := some .int) (hh := [(0, 293, 294, 71), (0, 293, 299, 74), (0, 293, 304, 77)]) (by decide) rfl ?_
  intro p e s m args below meth c s₁ B hml hv
  obtain ⟨rfl, hv⟩ := hv
  have hx := B.exec
  have hb := B.bytes
  have hr := B.returns
  have hts := atoms_spec (ws := wsL_act) B.pre
  have hown : s.vm.findClass RL = some m.cls := findClass_of_methodNamed B.named
  have hlocks := B.notSynchronized
  have htab := vx_table (x := yL_act) B (hts (.codeWith yL_act cL_act 7 (some .int) [(0, 293, 294, 71), (0, 293, 299, 74), (0, 293, 304, 77)]) List.mem_cons_self)
  obtain ⟨⟨rfl, hw, hs⟩, hn⟩ := pn_begin hv
  generalize va_A (va_pl L f) s.heap.size = A at hw hs ⊢
  have CF := (⟨hx, hb, hml, hown, hts⟩ : CallFix p m c cL_act 7 s _ wsL_act RL)
  have hl := lv_entry ([.ref o, .int 15, .int x, .int y, .int z, .int w]) (n := 7) (Nat.le_of_ble_eq_true rfl)
  rw [lg_entry_eq]
  generalize (lg_sl ([.ref o, .int 15, .int x, .int y, .int z, .int w]) ++ List.replicate (7 - (lg_sl ([.ref o, .int 15, .int x, .int y, .int z, .int w])).length) Slot.unset).toArray = ls at hl ⊢
  have hl : lv_has ls 7 [(0, .ref o), (1, .int 15), (2, .int x), (3, .int y), (4, .int z), (5, .int w)] := hl
  refine lv_iload_n hx hb dL_act_0 rfl (lv_at hl 1 rfl) ?_
  refine lv_if_ne (tgt := 12) hx hb dL_act_1 (by decide) (fun _ => ?_) (fun h9 => absurd h9 (by decide))
  refine lv_iload_n hx hb dL_act_12 rfl (lv_at hl 1 rfl) ?_
  refine lv_iconst (v := 1) hx hb dL_act_13 (by decide) ?_
  refine lv_icmp_ne (tgt := 28) hx hb dL_act_14 (by decide) (fun _ => ?_) (fun h9 => absurd h9 (by decide))
  refine lv_iload_n hx hb dL_act_28 rfl (lv_at hl 1 rfl) ?_
  refine lv_iconst (v := 2) hx hb dL_act_29 (by decide) ?_
  refine lv_icmp_ne (tgt := 41) hx hb dL_act_30 (by decide) (fun _ => ?_) (fun h9 => absurd h9 (by decide))
  refine lv_iload_n hx hb dL_act_41 rfl (lv_at hl 1 rfl) ?_
  refine lv_iconst (v := 3) hx hb dL_act_42 (by decide) ?_
  refine lv_icmp_ne (tgt := 59) hx hb dL_act_43 (by decide) (fun _ => ?_) (fun h9 => absurd h9 (by decide))
  refine lv_iload_n hx hb dL_act_59 rfl (lv_at hl 1 rfl) ?_
  refine lv_iconst (v := 4) hx hb dL_act_60 (by decide) ?_
  refine lv_icmp_ne (tgt := 77) hx hb dL_act_61 (by decide) (fun _ => ?_) (fun h9 => absurd h9 (by decide))
  refine lv_iload_n hx hb dL_act_77 rfl (lv_at hl 1 rfl) ?_
  refine lv_iconst (v := 5) hx hb dL_act_78 (by decide) ?_
  refine lv_icmp_ne (tgt := 91) hx hb dL_act_79 (by decide) (fun _ => ?_) (fun h9 => absurd h9 (by decide))
  refine lv_iload_n hx hb dL_act_91 rfl (lv_at hl 1 rfl) ?_
  refine lv_bipush (v := 6) hx hb dL_act_92 (by decide) ?_
  refine lv_icmp_ne (tgt := 106) hx hb dL_act_94 (by decide) (fun _ => ?_) (fun h9 => absurd h9 (by decide))
  refine lv_iload_n hx hb dL_act_106 rfl (lv_at hl 1 rfl) ?_
  refine lv_bipush (v := 7) hx hb dL_act_107 (by decide) ?_
  refine lv_icmp_ne (tgt := 120) hx hb dL_act_109 (by decide) (fun _ => ?_) (fun h9 => absurd h9 (by decide))
  refine lv_iload_n hx hb dL_act_120 rfl (lv_at hl 1 rfl) ?_
  refine lv_bipush (v := 8) hx hb dL_act_121 (by decide) ?_
  refine lv_icmp_ne (tgt := 134) hx hb dL_act_123 (by decide) (fun _ => ?_) (fun h9 => absurd h9 (by decide))
  refine lv_iload_n hx hb dL_act_134 rfl (lv_at hl 1 rfl) ?_
  refine lv_bipush (v := 9) hx hb dL_act_135 (by decide) ?_
  refine lv_icmp_ne (tgt := 153) hx hb dL_act_137 (by decide) (fun _ => ?_) (fun h9 => absurd h9 (by decide))
  refine lv_iload_n hx hb dL_act_153 rfl (lv_at hl 1 rfl) ?_
  refine lv_bipush (v := 10) hx hb dL_act_154 (by decide) ?_
  refine lv_icmp_ne (tgt := 178) hx hb dL_act_156 (by decide) (fun _ => ?_) (fun h9 => absurd h9 (by decide))
  refine lv_iload_n hx hb dL_act_178 rfl (lv_at hl 1 rfl) ?_
  refine lv_bipush (v := 11) hx hb dL_act_179 (by decide) ?_
  refine lv_icmp_ne (tgt := 195) hx hb dL_act_181 (by decide) (fun _ => ?_) (fun h9 => absurd h9 (by decide))
  refine lv_iload_n hx hb dL_act_195 rfl (lv_at hl 1 rfl) ?_
  refine lv_bipush (v := 12) hx hb dL_act_196 (by decide) ?_
  refine lv_icmp_ne (tgt := 210) hx hb dL_act_198 (by decide) (fun _ => ?_) (fun h9 => absurd h9 (by decide))
  refine lv_iload_n hx hb dL_act_210 rfl (lv_at hl 1 rfl) ?_
  refine lv_bipush (v := 13) hx hb dL_act_211 (by decide) ?_
  refine lv_icmp_ne (tgt := 227) hx hb dL_act_213 (by decide) (fun _ => ?_) (fun h9 => absurd h9 (by decide))
  refine lv_iload_n hx hb dL_act_227 rfl (lv_at hl 1 rfl) ?_
  refine lv_bipush (v := 14) hx hb dL_act_228 (by decide) ?_
  refine lv_icmp_ne (tgt := 244) hx hb dL_act_230 (by decide) (fun _ => ?_) (fun h9 => absurd h9 (by decide))
  refine lv_iload_n hx hb dL_act_244 rfl (lv_at hl 1 rfl) ?_
  refine lv_bipush (v := 15) hx hb dL_act_245 (by decide) ?_
  refine lv_icmp_ne (tgt := 259) hx hb dL_act_247 (by decide) (fun h9 => absurd rfl h9) (fun _ => ?_)
  refine lv_aload_n hx hb dL_act_250 rfl (lv_at hl 0 rfl) ?_
  refine lv_iload_n hx hb dL_act_251 rfl (lv_at hl 2 rfl) ?_
  refine lv_iload_n hx hb dL_act_252 rfl (lv_at hl 3 rfl) ?_
  refine px_ic hw (vx_runV (As := [.int x, .int y]) (rest := []) CF (hc _) (cwV 2 hts gL_act_X6_premium rfl rfl rfl (by decide +kernel) ⟨Nat.le_of_ble_eq_true rfl, Nat.le_of_ble_eq_true rfl⟩) (pm_preV hw hs (pm_recv hw hq0 hf0 rfl)) rfl rfl hl.1 rfl (lv_room (Nat.le_of_ble_eq_true rfl)) dL_act_253 ⟨Nat.le_of_ble_eq_true rfl, Nat.le_of_ble_eq_true rfl⟩) (fun E ce q9 L1 f1 H1 locs1 he hw1 h1 h2 h3 => ?_) (fun r L1 f1 H locs hp hw => ?_)
  · obtain ⟨q, hq, rfl⟩ := exL_mem _ he.1
    rcases hD q hq with e9 | e9 | e9
    · rw [e9] at h3 he
      refine vx_catch hown [] ⟨0, 293, 294, 71⟩ [⟨0, 293, 299, 74⟩, ⟨0, 293, 304, 77⟩] (by rw [htab]; rfl) (fun z hz => absurd hz List.not_mem_nil) (by decide) (by decide) (hts (.classLink RL 71 "java/lang/IndexOutOfBoundsException") (by decide +kernel)) (va_Nw.use rfl (hs.2.2.2.1 ("java/lang/IndexOutOfBoundsException", "java/lang/IndexOutOfBoundsException") (by decide +kernel))) h1 h2 h3 ?_
      refine lv_astore (lv' := [(6, .ref q9), (0, .ref o), (1, .int 15), (2, .int x), (3, .int y), (4, .int z), (5, .int w)]) hx hb dL_act_294 hl (by decide) rfl (fun ls hl => ?_)
      refine lv_ldc (v := (-90000001)) hx hb hown (hts (.constant RL 73 (-90000001)) (by decide +kernel)) dL_act_296 ?_
      exact vx_ret (pr_i (v := (-90000001)) hx hb hr hlocks hw1 rfl ⟨Nat.le_of_ble_eq_true rfl, Nat.le_of_ble_eq_true rfl⟩ (Or.inr ⟨_, he, cE_i.symm⟩) dL_act_298)
    · rw [e9] at h3 he
      refine vx_catch hown [⟨0, 293, 294, 71⟩] ⟨0, 293, 299, 74⟩ [⟨0, 293, 304, 77⟩] (by rw [htab]; rfl) (fun z hz => by
              simp only [List.mem_cons, List.not_mem_nil, or_false] at hz
              subst hz
              exact Or.inr ⟨by decide, "java/lang/IndexOutOfBoundsException", hts (.classLink RL 71 "java/lang/IndexOutOfBoundsException") (by decide +kernel), hn ("java/lang/IllegalArgumentException", "java/lang/IndexOutOfBoundsException") (by decide +kernel)⟩) (by decide) (by decide) (hts (.classLink RL 74 "java/lang/IllegalArgumentException") (by decide +kernel)) (va_Nw.use rfl (hs.2.2.2.1 ("java/lang/IllegalArgumentException", "java/lang/IllegalArgumentException") (by decide +kernel))) h1 h2 h3 ?_
      refine lv_astore (lv' := [(6, .ref q9), (0, .ref o), (1, .int 15), (2, .int x), (3, .int y), (4, .int z), (5, .int w)]) hx hb dL_act_299 hl (by decide) rfl (fun ls hl => ?_)
      refine lv_ldc (v := (-90000002)) hx hb hown (hts (.constant RL 76 (-90000002)) (by decide +kernel)) dL_act_301 ?_
      exact vx_ret (pr_i (v := (-90000002)) hx hb hr hlocks hw1 rfl ⟨Nat.le_of_ble_eq_true rfl, Nat.le_of_ble_eq_true rfl⟩ (Or.inr ⟨_, he, cE_a.symm⟩) dL_act_303)
    · rw [e9] at h3 he
      refine vx_catch hown [⟨0, 293, 294, 71⟩, ⟨0, 293, 299, 74⟩] ⟨0, 293, 304, 77⟩ [] (by rw [htab]; rfl) (fun z hz => by
              simp only [List.mem_cons, List.not_mem_nil, or_false] at hz
              rcases hz with rfl | rfl
              · exact Or.inr ⟨by decide, "java/lang/IndexOutOfBoundsException", hts (.classLink RL 71 "java/lang/IndexOutOfBoundsException") (by decide +kernel), hn ("java/lang/IllegalStateException", "java/lang/IndexOutOfBoundsException") (by decide +kernel)⟩
              · exact Or.inr ⟨by decide, "java/lang/IllegalArgumentException", hts (.classLink RL 74 "java/lang/IllegalArgumentException") (by decide +kernel), hn ("java/lang/IllegalStateException", "java/lang/IllegalArgumentException") (by decide +kernel)⟩) (by decide) (by decide) (hts (.classLink RL 77 "java/lang/IllegalStateException") (by decide +kernel)) (va_Nw.use rfl (hs.2.2.2.1 ("java/lang/IllegalStateException", "java/lang/IllegalStateException") (by decide +kernel))) h1 h2 h3 ?_
      refine lv_astore (lv' := [(6, .ref q9), (0, .ref o), (1, .int 15), (2, .int x), (3, .int y), (4, .int z), (5, .int w)]) hx hb dL_act_304 hl (by decide) rfl (fun ls hl => ?_)
      refine lv_ldc (v := (-90000003)) hx hb hown (hts (.constant RL 79 (-90000003)) (by decide +kernel)) dL_act_306 ?_
      exact vx_ret (pr_i (v := (-90000003)) hx hb hr hlocks hw1 rfl ⟨Nat.le_of_ble_eq_true rfl, Nat.le_of_ble_eq_true rfl⟩ (Or.inr ⟨_, he, cE_s.symm⟩) dL_act_308)
  · refine lv_goto (tgt := 293) hx hb dL_act_256 (by decide) ?_
    exact vx_ret (pr_i (v := r) hx hb hr hlocks hw rfl ⟨Nat.le_of_ble_eq_true rfl, Nat.le_of_ble_eq_true rfl⟩ (Or.inl hp) dL_act_293)

set_option maxHeartbeats 4000000 in
set_option maxRecDepth 100000 in
theorem act_premiumByDays (l : Launch) (g : GE) (L : List Nat) (f : Nat → va_E) {o : Nat} {fs : List Value} (hq0 : o ∈ L) (hf0 : f o = .inr (8, fs)) (x y z w : Int32) {D : List (String × Prop)} {ok : Int32 → PE → Prop} {bad : PE → Prop} (hc : Xi l yX6_premiumByDays wsX6_premiumByDays (rmH 6 2 12) g L f [.ref o, .int x, .int y] (fun r u => allD D ∧ ok r u) (fun E u => exL D E ∧ bad u) 2 12) (hD : ∀ q, q ∈ D → q.1 = IOX ∨ q.1 = IAX ∨ q.1 = ISX) : Ni l yL_act wsL_act (rmH 10 8 524) g L f [.ref o, .int 16, .int x, .int y, .int z, .int w] (AnP D ok bad) 8 524 := by
  intro sz
  refine vx_ofWH (cc := cL_act) (maxL := 7) (ret := some .int) (hh := [(0, 293, 294, 71), (0, 293, 299, 74), (0, 293, 304, 77)]) (by decide) rfl ?_
  intro p e s m args below meth c s₁ B hml hv
  obtain ⟨rfl, hv⟩ := hv
  have hx := B.exec
  have hb := B.bytes
  have hr := B.returns
  have hts := atoms_spec (ws := wsL_act) B.pre
  have hown : s.vm.findClass RL = some m.cls := findClass_of_methodNamed B.named
  have hlocks := B.notSynchronized
  have htab := vx_table (x := yL_act) B (hts (.codeWith yL_act cL_act 7 (some .int) [(0, 293, 294, 71), (0, 293, 299, 74), (0, 293, 304, 77)]) List.mem_cons_self)
  obtain ⟨⟨rfl, hw, hs⟩, hn⟩ := pn_begin hv
  generalize va_A (va_pl L f) s.heap.size = A at hw hs ⊢
  have CF := (⟨hx, hb, hml, hown, hts⟩ : CallFix p m c cL_act 7 s _ wsL_act RL)
  have hl := lv_entry ([.ref o, .int 16, .int x, .int y, .int z, .int w]) (n := 7) (Nat.le_of_ble_eq_true rfl)
  rw [lg_entry_eq]
  generalize (lg_sl ([.ref o, .int 16, .int x, .int y, .int z, .int w]) ++ List.replicate (7 - (lg_sl ([.ref o, .int 16, .int x, .int y, .int z, .int w])).length) Slot.unset).toArray = ls at hl ⊢
  have hl : lv_has ls 7 [(0, .ref o), (1, .int 16), (2, .int x), (3, .int y), (4, .int z), (5, .int w)] := hl
  refine lv_iload_n hx hb dL_act_0 rfl (lv_at hl 1 rfl) ?_
  refine lv_if_ne (tgt := 12) hx hb dL_act_1 (by decide) (fun _ => ?_) (fun h9 => absurd h9 (by decide))
  refine lv_iload_n hx hb dL_act_12 rfl (lv_at hl 1 rfl) ?_
  refine lv_iconst (v := 1) hx hb dL_act_13 (by decide) ?_
  refine lv_icmp_ne (tgt := 28) hx hb dL_act_14 (by decide) (fun _ => ?_) (fun h9 => absurd h9 (by decide))
  refine lv_iload_n hx hb dL_act_28 rfl (lv_at hl 1 rfl) ?_
  refine lv_iconst (v := 2) hx hb dL_act_29 (by decide) ?_
  refine lv_icmp_ne (tgt := 41) hx hb dL_act_30 (by decide) (fun _ => ?_) (fun h9 => absurd h9 (by decide))
  refine lv_iload_n hx hb dL_act_41 rfl (lv_at hl 1 rfl) ?_
  refine lv_iconst (v := 3) hx hb dL_act_42 (by decide) ?_
  refine lv_icmp_ne (tgt := 59) hx hb dL_act_43 (by decide) (fun _ => ?_) (fun h9 => absurd h9 (by decide))
  refine lv_iload_n hx hb dL_act_59 rfl (lv_at hl 1 rfl) ?_
  refine lv_iconst (v := 4) hx hb dL_act_60 (by decide) ?_
  refine lv_icmp_ne (tgt := 77) hx hb dL_act_61 (by decide) (fun _ => ?_) (fun h9 => absurd h9 (by decide))
  refine lv_iload_n hx hb dL_act_77 rfl (lv_at hl 1 rfl) ?_
  refine lv_iconst (v := 5) hx hb dL_act_78 (by decide) ?_
  refine lv_icmp_ne (tgt := 91) hx hb dL_act_79 (by decide) (fun _ => ?_) (fun h9 => absurd h9 (by decide))
  refine lv_iload_n hx hb dL_act_91 rfl (lv_at hl 1 rfl) ?_
  refine lv_bipush (v := 6) hx hb dL_act_92 (by decide) ?_
  refine lv_icmp_ne (tgt := 106) hx hb dL_act_94 (by decide) (fun _ => ?_) (fun h9 => absurd h9 (by decide))
  refine lv_iload_n hx hb dL_act_106 rfl (lv_at hl 1 rfl) ?_
  refine lv_bipush (v := 7) hx hb dL_act_107 (by decide) ?_
  refine lv_icmp_ne (tgt := 120) hx hb dL_act_109 (by decide) (fun _ => ?_) (fun h9 => absurd h9 (by decide))
  refine lv_iload_n hx hb dL_act_120 rfl (lv_at hl 1 rfl) ?_
  refine lv_bipush (v := 8) hx hb dL_act_121 (by decide) ?_
  refine lv_icmp_ne (tgt := 134) hx hb dL_act_123 (by decide) (fun _ => ?_) (fun h9 => absurd h9 (by decide))
  refine lv_iload_n hx hb dL_act_134 rfl (lv_at hl 1 rfl) ?_
  refine lv_bipush (v := 9) hx hb dL_act_135 (by decide) ?_
  refine lv_icmp_ne (tgt := 153) hx hb dL_act_137 (by decide) (fun _ => ?_) (fun h9 => absurd h9 (by decide))
  refine lv_iload_n hx hb dL_act_153 rfl (lv_at hl 1 rfl) ?_
  refine lv_bipush (v := 10) hx hb dL_act_154 (by decide) ?_
  refine lv_icmp_ne (tgt := 178) hx hb dL_act_156 (by decide) (fun _ => ?_) (fun h9 => absurd h9 (by decide))
  refine lv_iload_n hx hb dL_act_178 rfl (lv_at hl 1 rfl) ?_
  refine lv_bipush (v := 11) hx hb dL_act_179 (by decide) ?_
  refine lv_icmp_ne (tgt := 195) hx hb dL_act_181 (by decide) (fun _ => ?_) (fun h9 => absurd h9 (by decide))
  refine lv_iload_n hx hb dL_act_195 rfl (lv_at hl 1 rfl) ?_
  refine lv_bipush (v := 12) hx hb dL_act_196 (by decide) ?_
  refine lv_icmp_ne (tgt := 210) hx hb dL_act_198 (by decide) (fun _ => ?_) (fun h9 => absurd h9 (by decide))
  refine lv_iload_n hx hb dL_act_210 rfl (lv_at hl 1 rfl) ?_
  refine lv_bipush (v := 13) hx hb dL_act_211 (by decide) ?_
  refine lv_icmp_ne (tgt := 227) hx hb dL_act_213 (by decide) (fun _ => ?_) (fun h9 => absurd h9 (by decide))
  refine lv_iload_n hx hb dL_act_227 rfl (lv_at hl 1 rfl) ?_
  refine lv_bipush (v := 14) hx hb dL_act_228 (by decide) ?_
  refine lv_icmp_ne (tgt := 244) hx hb dL_act_230 (by decide) (fun _ => ?_) (fun h9 => absurd h9 (by decide))
  refine lv_iload_n hx hb dL_act_244 rfl (lv_at hl 1 rfl) ?_
  refine lv_bipush (v := 15) hx hb dL_act_245 (by decide) ?_
  refine lv_icmp_ne (tgt := 259) hx hb dL_act_247 (by decide) (fun _ => ?_) (fun h9 => absurd h9 (by decide))
  refine lv_iload_n hx hb dL_act_259 rfl (lv_at hl 1 rfl) ?_
  refine lv_bipush (v := 16) hx hb dL_act_260 (by decide) ?_
  refine lv_icmp_ne (tgt := 274) hx hb dL_act_262 (by decide) (fun h9 => absurd rfl h9) (fun _ => ?_)
  refine lv_aload_n hx hb dL_act_265 rfl (lv_at hl 0 rfl) ?_
  refine lv_iload_n hx hb dL_act_266 rfl (lv_at hl 2 rfl) ?_
  refine lv_iload_n hx hb dL_act_267 rfl (lv_at hl 3 rfl) ?_
  refine px_ic hw (vx_runV (As := [.int x, .int y]) (rest := []) CF (hc _) (cwV 2 hts gL_act_X6_premiumByDays rfl rfl rfl (by decide +kernel) ⟨Nat.le_of_ble_eq_true rfl, Nat.le_of_ble_eq_true rfl⟩) (pm_preV hw hs (pm_recv hw hq0 hf0 rfl)) rfl rfl hl.1 rfl (lv_room (Nat.le_of_ble_eq_true rfl)) dL_act_268 ⟨Nat.le_of_ble_eq_true rfl, Nat.le_of_ble_eq_true rfl⟩) (fun E ce q9 L1 f1 H1 locs1 he hw1 h1 h2 h3 => ?_) (fun r L1 f1 H locs hp hw => ?_)
  · obtain ⟨q, hq, rfl⟩ := exL_mem _ he.1
    rcases hD q hq with e9 | e9 | e9
    · rw [e9] at h3 he
      refine vx_catch hown [] ⟨0, 293, 294, 71⟩ [⟨0, 293, 299, 74⟩, ⟨0, 293, 304, 77⟩] (by rw [htab]; rfl) (fun z hz => absurd hz List.not_mem_nil) (by decide) (by decide) (hts (.classLink RL 71 "java/lang/IndexOutOfBoundsException") (by decide +kernel)) (va_Nw.use rfl (hs.2.2.2.1 ("java/lang/IndexOutOfBoundsException", "java/lang/IndexOutOfBoundsException") (by decide +kernel))) h1 h2 h3 ?_
      refine lv_astore (lv' := [(6, .ref q9), (0, .ref o), (1, .int 16), (2, .int x), (3, .int y), (4, .int z), (5, .int w)]) hx hb dL_act_294 hl (by decide) rfl (fun ls hl => ?_)
      refine lv_ldc (v := (-90000001)) hx hb hown (hts (.constant RL 73 (-90000001)) (by decide +kernel)) dL_act_296 ?_
      exact vx_ret (pr_i (v := (-90000001)) hx hb hr hlocks hw1 rfl ⟨Nat.le_of_ble_eq_true rfl, Nat.le_of_ble_eq_true rfl⟩ (Or.inr ⟨_, he, cE_i.symm⟩) dL_act_298)
    · rw [e9] at h3 he
      refine vx_catch hown [⟨0, 293, 294, 71⟩] ⟨0, 293, 299, 74⟩ [⟨0, 293, 304, 77⟩] (by rw [htab]; rfl) (fun z hz => by
              simp only [List.mem_cons, List.not_mem_nil, or_false] at hz
              subst hz
              exact Or.inr ⟨by decide, "java/lang/IndexOutOfBoundsException", hts (.classLink RL 71 "java/lang/IndexOutOfBoundsException") (by decide +kernel), hn ("java/lang/IllegalArgumentException", "java/lang/IndexOutOfBoundsException") (by decide +kernel)⟩) (by decide) (by decide) (hts (.classLink RL 74 "java/lang/IllegalArgumentException") (by decide +kernel)) (va_Nw.use rfl (hs.2.2.2.1 ("java/lang/IllegalArgumentException", "java/lang/IllegalArgumentException") (by decide +kernel))) h1 h2 h3 ?_
      refine lv_astore (lv' := [(6, .ref q9), (0, .ref o), (1, .int 16), (2, .int x), (3, .int y), (4, .int z), (5, .int w)]) hx hb dL_act_299 hl (by decide) rfl (fun ls hl => ?_)
      refine lv_ldc (v := (-90000002)) hx hb hown (hts (.constant RL 76 (-90000002)) (by decide +kernel)) dL_act_301 ?_
      exact vx_ret (pr_i (v := (-90000002)) hx hb hr hlocks hw1 rfl ⟨Nat.le_of_ble_eq_true rfl, Nat.le_of_ble_eq_true rfl⟩ (Or.inr ⟨_, he, cE_a.symm⟩) dL_act_303)
    · rw [e9] at h3 he
      refine vx_catch hown [⟨0, 293, 294, 71⟩, ⟨0, 293, 299, 74⟩] ⟨0, 293, 304, 77⟩ [] (by rw [htab]; rfl) (fun z hz => by
              simp only [List.mem_cons, List.not_mem_nil, or_false] at hz
              rcases hz with rfl | rfl
              · exact Or.inr ⟨by decide, "java/lang/IndexOutOfBoundsException", hts (.classLink RL 71 "java/lang/IndexOutOfBoundsException") (by decide +kernel), hn ("java/lang/IllegalStateException", "java/lang/IndexOutOfBoundsException") (by decide +kernel)⟩
              · exact Or.inr ⟨by decide, "java/lang/IllegalArgumentException", hts (.classLink RL 74 "java/lang/IllegalArgumentException") (by decide +kernel), hn ("java/lang/IllegalStateException", "java/lang/IllegalArgumentException") (by decide +kernel)⟩) (by decide) (by decide) (hts (.classLink RL 77 "java/lang/IllegalStateException") (by decide +kernel)) (va_Nw.use rfl (hs.2.2.2.1 ("java/lang/IllegalStateException", "java/lang/IllegalStateException") (by decide +kernel))) h1 h2 h3 ?_
      refine lv_astore (lv' := [(6, .ref q9), (0, .ref o), (1, .int 16), (2, .int x), (3, .int y), (4, .int z), (5, .int w)]) hx hb dL_act_304 hl (by decide) rfl (fun ls hl => ?_)
      refine lv_ldc (v := (-90000003)) hx hb hown (hts (.constant RL 79 (-90000003)) (by decide +kernel)) dL_act_306 ?_
      exact vx_ret (pr_i (v := (-90000003)) hx hb hr hlocks hw1 rfl ⟨Nat.le_of_ble_eq_true rfl, Nat.le_of_ble_eq_true rfl⟩ (Or.inr ⟨_, he, cE_s.symm⟩) dL_act_308)
  · refine lv_goto (tgt := 293) hx hb dL_act_271 (by decide) ?_
    exact vx_ret (pr_i (v := r) hx hb hr hlocks hw rfl ⟨Nat.le_of_ble_eq_true rfl, Nat.le_of_ble_eq_true rfl⟩ (Or.inl hp) dL_act_293)

set_option maxHeartbeats 4000000 in
set_option maxRecDepth 100000 in
theorem act_bill (l : Launch) (g : GE) (L : List Nat) (f : Nat → va_E) {o : Nat} {fs : List Value} (hq0 : o ∈ L) (hf0 : f o = .inr (8, fs)) (x y z w : Int32) {D : List (String × Prop)} {ok : Int32 → PE → Prop} {bad : PE → Prop} (hc : Xi l yX6_bill wsX6_bill (rmH 7 1 6) g L f [.ref o, .int x] (fun r u => allD D ∧ ok r u) (fun E u => exL D E ∧ bad u) 1 6) (hD : ∀ q, q ∈ D → q.1 = IOX ∨ q.1 = IAX ∨ q.1 = ISX) : Ni l yL_act wsL_act (rmH 10 8 524) g L f [.ref o, .int 17, .int x, .int y, .int z, .int w] (AnP D ok bad) 8 524 := by
  intro sz
  refine vx_ofWH (cc := cL_act) (maxL := 7) (ret := some .int) (hh := [(0, 293, 294, 71), (0, 293, 299, 74), (0, 293, 304, 77)]) (by decide) rfl ?_
  intro p e s m args below meth c s₁ B hml hv
  obtain ⟨rfl, hv⟩ := hv
  have hx := B.exec
  have hb := B.bytes
  have hr := B.returns
  have hts := atoms_spec (ws := wsL_act) B.pre
  have hown : s.vm.findClass RL = some m.cls := findClass_of_methodNamed B.named
  have hlocks := B.notSynchronized
  have htab := vx_table (x := yL_act) B (hts (.codeWith yL_act cL_act 7 (some .int) [(0, 293, 294, 71), (0, 293, 299, 74), (0, 293, 304, 77)]) List.mem_cons_self)
  obtain ⟨⟨rfl, hw, hs⟩, hn⟩ := pn_begin hv
  generalize va_A (va_pl L f) s.heap.size = A at hw hs ⊢
  have CF := (⟨hx, hb, hml, hown, hts⟩ : CallFix p m c cL_act 7 s _ wsL_act RL)
  have hl := lv_entry ([.ref o, .int 17, .int x, .int y, .int z, .int w]) (n := 7) (Nat.le_of_ble_eq_true rfl)
  rw [lg_entry_eq]
  generalize (lg_sl ([.ref o, .int 17, .int x, .int y, .int z, .int w]) ++ List.replicate (7 - (lg_sl ([.ref o, .int 17, .int x, .int y, .int z, .int w])).length) Slot.unset).toArray = ls at hl ⊢
  have hl : lv_has ls 7 [(0, .ref o), (1, .int 17), (2, .int x), (3, .int y), (4, .int z), (5, .int w)] := hl
  refine lv_iload_n hx hb dL_act_0 rfl (lv_at hl 1 rfl) ?_
  refine lv_if_ne (tgt := 12) hx hb dL_act_1 (by decide) (fun _ => ?_) (fun h9 => absurd h9 (by decide))
  refine lv_iload_n hx hb dL_act_12 rfl (lv_at hl 1 rfl) ?_
  refine lv_iconst (v := 1) hx hb dL_act_13 (by decide) ?_
  refine lv_icmp_ne (tgt := 28) hx hb dL_act_14 (by decide) (fun _ => ?_) (fun h9 => absurd h9 (by decide))
  refine lv_iload_n hx hb dL_act_28 rfl (lv_at hl 1 rfl) ?_
  refine lv_iconst (v := 2) hx hb dL_act_29 (by decide) ?_
  refine lv_icmp_ne (tgt := 41) hx hb dL_act_30 (by decide) (fun _ => ?_) (fun h9 => absurd h9 (by decide))
  refine lv_iload_n hx hb dL_act_41 rfl (lv_at hl 1 rfl) ?_
  refine lv_iconst (v := 3) hx hb dL_act_42 (by decide) ?_
  refine lv_icmp_ne (tgt := 59) hx hb dL_act_43 (by decide) (fun _ => ?_) (fun h9 => absurd h9 (by decide))
  refine lv_iload_n hx hb dL_act_59 rfl (lv_at hl 1 rfl) ?_
  refine lv_iconst (v := 4) hx hb dL_act_60 (by decide) ?_
  refine lv_icmp_ne (tgt := 77) hx hb dL_act_61 (by decide) (fun _ => ?_) (fun h9 => absurd h9 (by decide))
  refine lv_iload_n hx hb dL_act_77 rfl (lv_at hl 1 rfl) ?_
  refine lv_iconst (v := 5) hx hb dL_act_78 (by decide) ?_
  refine lv_icmp_ne (tgt := 91) hx hb dL_act_79 (by decide) (fun _ => ?_) (fun h9 => absurd h9 (by decide))
  refine lv_iload_n hx hb dL_act_91 rfl (lv_at hl 1 rfl) ?_
  refine lv_bipush (v := 6) hx hb dL_act_92 (by decide) ?_
  refine lv_icmp_ne (tgt := 106) hx hb dL_act_94 (by decide) (fun _ => ?_) (fun h9 => absurd h9 (by decide))
  refine lv_iload_n hx hb dL_act_106 rfl (lv_at hl 1 rfl) ?_
  refine lv_bipush (v := 7) hx hb dL_act_107 (by decide) ?_
  refine lv_icmp_ne (tgt := 120) hx hb dL_act_109 (by decide) (fun _ => ?_) (fun h9 => absurd h9 (by decide))
  refine lv_iload_n hx hb dL_act_120 rfl (lv_at hl 1 rfl) ?_
  refine lv_bipush (v := 8) hx hb dL_act_121 (by decide) ?_
  refine lv_icmp_ne (tgt := 134) hx hb dL_act_123 (by decide) (fun _ => ?_) (fun h9 => absurd h9 (by decide))
  refine lv_iload_n hx hb dL_act_134 rfl (lv_at hl 1 rfl) ?_
  refine lv_bipush (v := 9) hx hb dL_act_135 (by decide) ?_
  refine lv_icmp_ne (tgt := 153) hx hb dL_act_137 (by decide) (fun _ => ?_) (fun h9 => absurd h9 (by decide))
  refine lv_iload_n hx hb dL_act_153 rfl (lv_at hl 1 rfl) ?_
  refine lv_bipush (v := 10) hx hb dL_act_154 (by decide) ?_
  refine lv_icmp_ne (tgt := 178) hx hb dL_act_156 (by decide) (fun _ => ?_) (fun h9 => absurd h9 (by decide))
  refine lv_iload_n hx hb dL_act_178 rfl (lv_at hl 1 rfl) ?_
  refine lv_bipush (v := 11) hx hb dL_act_179 (by decide) ?_
  refine lv_icmp_ne (tgt := 195) hx hb dL_act_181 (by decide) (fun _ => ?_) (fun h9 => absurd h9 (by decide))
  refine lv_iload_n hx hb dL_act_195 rfl (lv_at hl 1 rfl) ?_
  refine lv_bipush (v := 12) hx hb dL_act_196 (by decide) ?_
  refine lv_icmp_ne (tgt := 210) hx hb dL_act_198 (by decide) (fun _ => ?_) (fun h9 => absurd h9 (by decide))
  refine lv_iload_n hx hb dL_act_210 rfl (lv_at hl 1 rfl) ?_
  refine lv_bipush (v := 13) hx hb dL_act_211 (by decide) ?_
  refine lv_icmp_ne (tgt := 227) hx hb dL_act_213 (by decide) (fun _ => ?_) (fun h9 => absurd h9 (by decide))
  refine lv_iload_n hx hb dL_act_227 rfl (lv_at hl 1 rfl) ?_
  refine lv_bipush (v := 14) hx hb dL_act_228 (by decide) ?_
  refine lv_icmp_ne (tgt := 244) hx hb dL_act_230 (by decide) (fun _ => ?_) (fun h9 => absurd h9 (by decide))
  refine lv_iload_n hx hb dL_act_244 rfl (lv_at hl 1 rfl) ?_
  refine lv_bipush (v := 15) hx hb dL_act_245 (by decide) ?_
  refine lv_icmp_ne (tgt := 259) hx hb dL_act_247 (by decide) (fun _ => ?_) (fun h9 => absurd h9 (by decide))
  refine lv_iload_n hx hb dL_act_259 rfl (lv_at hl 1 rfl) ?_
  refine lv_bipush (v := 16) hx hb dL_act_260 (by decide) ?_
  refine lv_icmp_ne (tgt := 274) hx hb dL_act_262 (by decide) (fun _ => ?_) (fun h9 => absurd h9 (by decide))
  refine lv_iload_n hx hb dL_act_274 rfl (lv_at hl 1 rfl) ?_
  refine lv_bipush (v := 17) hx hb dL_act_275 (by decide) ?_
  refine lv_icmp_ne (tgt := 288) hx hb dL_act_277 (by decide) (fun h9 => absurd rfl h9) (fun _ => ?_)
  refine lv_aload_n hx hb dL_act_280 rfl (lv_at hl 0 rfl) ?_
  refine lv_iload_n hx hb dL_act_281 rfl (lv_at hl 2 rfl) ?_
  refine px_ic hw (vx_runV (As := [.int x]) (rest := []) CF (hc _) (cwV 1 hts gL_act_X6_bill rfl rfl rfl (by decide +kernel) ⟨Nat.le_of_ble_eq_true rfl, Nat.le_of_ble_eq_true rfl⟩) (pm_preV hw hs (pm_recv hw hq0 hf0 rfl)) rfl rfl hl.1 rfl (lv_room (Nat.le_of_ble_eq_true rfl)) dL_act_282 ⟨Nat.le_of_ble_eq_true rfl, Nat.le_of_ble_eq_true rfl⟩) (fun E ce q9 L1 f1 H1 locs1 he hw1 h1 h2 h3 => ?_) (fun r L1 f1 H locs hp hw => ?_)
  · obtain ⟨q, hq, rfl⟩ := exL_mem _ he.1
    rcases hD q hq with e9 | e9 | e9
    · rw [e9] at h3 he
      refine vx_catch hown [] ⟨0, 293, 294, 71⟩ [⟨0, 293, 299, 74⟩, ⟨0, 293, 304, 77⟩] (by rw [htab]; rfl) (fun z hz => absurd hz List.not_mem_nil) (by decide) (by decide) (hts (.classLink RL 71 "java/lang/IndexOutOfBoundsException") (by decide +kernel)) (va_Nw.use rfl (hs.2.2.2.1 ("java/lang/IndexOutOfBoundsException", "java/lang/IndexOutOfBoundsException") (by decide +kernel))) h1 h2 h3 ?_
      refine lv_astore (lv' := [(6, .ref q9), (0, .ref o), (1, .int 17), (2, .int x), (3, .int y), (4, .int z), (5, .int w)]) hx hb dL_act_294 hl (by decide) rfl (fun ls hl => ?_)
      refine lv_ldc (v := (-90000001)) hx hb hown (hts (.constant RL 73 (-90000001)) (by decide +kernel)) dL_act_296 ?_
      exact vx_ret (pr_i (v := (-90000001)) hx hb hr hlocks hw1 rfl ⟨Nat.le_of_ble_eq_true rfl, Nat.le_of_ble_eq_true rfl⟩ (Or.inr ⟨_, he, cE_i.symm⟩) dL_act_298)
    · rw [e9] at h3 he
      refine vx_catch hown [⟨0, 293, 294, 71⟩] ⟨0, 293, 299, 74⟩ [⟨0, 293, 304, 77⟩] (by rw [htab]; rfl) (fun z hz => by
              simp only [List.mem_cons, List.not_mem_nil, or_false] at hz
              subst hz
              exact Or.inr ⟨by decide, "java/lang/IndexOutOfBoundsException", hts (.classLink RL 71 "java/lang/IndexOutOfBoundsException") (by decide +kernel), hn ("java/lang/IllegalArgumentException", "java/lang/IndexOutOfBoundsException") (by decide +kernel)⟩) (by decide) (by decide) (hts (.classLink RL 74 "java/lang/IllegalArgumentException") (by decide +kernel)) (va_Nw.use rfl (hs.2.2.2.1 ("java/lang/IllegalArgumentException", "java/lang/IllegalArgumentException") (by decide +kernel))) h1 h2 h3 ?_
      refine lv_astore (lv' := [(6, .ref q9), (0, .ref o), (1, .int 17), (2, .int x), (3, .int y), (4, .int z), (5, .int w)]) hx hb dL_act_299 hl (by decide) rfl (fun ls hl => ?_)
      refine lv_ldc (v := (-90000002)) hx hb hown (hts (.constant RL 76 (-90000002)) (by decide +kernel)) dL_act_301 ?_
      exact vx_ret (pr_i (v := (-90000002)) hx hb hr hlocks hw1 rfl ⟨Nat.le_of_ble_eq_true rfl, Nat.le_of_ble_eq_true rfl⟩ (Or.inr ⟨_, he, cE_a.symm⟩) dL_act_303)
    · rw [e9] at h3 he
      refine vx_catch hown [⟨0, 293, 294, 71⟩, ⟨0, 293, 299, 74⟩] ⟨0, 293, 304, 77⟩ [] (by rw [htab]; rfl) (fun z hz => by
              simp only [List.mem_cons, List.not_mem_nil, or_false] at hz
              rcases hz with rfl | rfl
              · exact Or.inr ⟨by decide, "java/lang/IndexOutOfBoundsException", hts (.classLink RL 71 "java/lang/IndexOutOfBoundsException") (by decide +kernel), hn ("java/lang/IllegalStateException", "java/lang/IndexOutOfBoundsException") (by decide +kernel)⟩
              · exact Or.inr ⟨by decide, "java/lang/IllegalArgumentException", hts (.classLink RL 74 "java/lang/IllegalArgumentException") (by decide +kernel), hn ("java/lang/IllegalStateException", "java/lang/IllegalArgumentException") (by decide +kernel)⟩) (by decide) (by decide) (hts (.classLink RL 77 "java/lang/IllegalStateException") (by decide +kernel)) (va_Nw.use rfl (hs.2.2.2.1 ("java/lang/IllegalStateException", "java/lang/IllegalStateException") (by decide +kernel))) h1 h2 h3 ?_
      refine lv_astore (lv' := [(6, .ref q9), (0, .ref o), (1, .int 17), (2, .int x), (3, .int y), (4, .int z), (5, .int w)]) hx hb dL_act_304 hl (by decide) rfl (fun ls hl => ?_)
      refine lv_ldc (v := (-90000003)) hx hb hown (hts (.constant RL 79 (-90000003)) (by decide +kernel)) dL_act_306 ?_
      exact vx_ret (pr_i (v := (-90000003)) hx hb hr hlocks hw1 rfl ⟨Nat.le_of_ble_eq_true rfl, Nat.le_of_ble_eq_true rfl⟩ (Or.inr ⟨_, he, cE_s.symm⟩) dL_act_308)
  · refine lv_goto (tgt := 293) hx hb dL_act_285 (by decide) ?_
    exact vx_ret (pr_i (v := r) hx hb hr hlocks hw rfl ⟨Nat.le_of_ble_eq_true rfl, Nat.le_of_ble_eq_true rfl⟩ (Or.inl hp) dL_act_293)

set_option maxHeartbeats 4000000 in
set_option maxRecDepth 100000 in
theorem act_billed (l : Launch) (g : GE) (L : List Nat) (f : Nat → va_E) {o : Nat} {fs : List Value} (hq0 : o ∈ L) (hf0 : f o = .inr (8, fs)) (x y z w : Int32) {D : List (String × Prop)} {ok : Int32 → PE → Prop} {bad : PE → Prop} (hc : Xi l yX6_billed wsX6_billed (rmH 4 1 6) g L f [.ref o, .int x] (fun r u => allD D ∧ ok r u) (fun E u => exL D E ∧ bad u) 1 6) (hD : ∀ q, q ∈ D → q.1 = IOX ∨ q.1 = IAX ∨ q.1 = ISX) : Ni l yL_act wsL_act (rmH 10 8 524) g L f [.ref o, .int 18, .int x, .int y, .int z, .int w] (AnP D ok bad) 8 524 := by
  intro sz
  refine vx_ofWH (cc := cL_act) (maxL := 7) (ret := some .int) (hh := [(0, 293, 294, 71), (0, 293, 299, 74), (0, 293, 304, 77)]) (by decide) rfl ?_
  intro p e s m args below meth c s₁ B hml hv
  obtain ⟨rfl, hv⟩ := hv
  have hx := B.exec
  have hb := B.bytes
  have hr := B.returns
  have hts := atoms_spec (ws := wsL_act) B.pre
  have hown : s.vm.findClass RL = some m.cls := findClass_of_methodNamed B.named
  have hlocks := B.notSynchronized
  have htab := vx_table (x := yL_act) B (hts (.codeWith yL_act cL_act 7 (some .int) [(0, 293, 294, 71), (0, 293, 299, 74), (0, 293, 304, 77)]) List.mem_cons_self)
  obtain ⟨⟨rfl, hw, hs⟩, hn⟩ := pn_begin hv
  generalize va_A (va_pl L f) s.heap.size = A at hw hs ⊢
  have CF := (⟨hx, hb, hml, hown, hts⟩ : CallFix p m c cL_act 7 s _ wsL_act RL)
  have hl := lv_entry ([.ref o, .int 18, .int x, .int y, .int z, .int w]) (n := 7) (Nat.le_of_ble_eq_true rfl)
  rw [lg_entry_eq]
  generalize (lg_sl ([.ref o, .int 18, .int x, .int y, .int z, .int w]) ++ List.replicate (7 - (lg_sl ([.ref o, .int 18, .int x, .int y, .int z, .int w])).length) Slot.unset).toArray = ls at hl ⊢
  have hl : lv_has ls 7 [(0, .ref o), (1, .int 18), (2, .int x), (3, .int y), (4, .int z), (5, .int w)] := hl
  refine lv_iload_n hx hb dL_act_0 rfl (lv_at hl 1 rfl) ?_
  refine lv_if_ne (tgt := 12) hx hb dL_act_1 (by decide) (fun _ => ?_) (fun h9 => absurd h9 (by decide))
  refine lv_iload_n hx hb dL_act_12 rfl (lv_at hl 1 rfl) ?_
  refine lv_iconst (v := 1) hx hb dL_act_13 (by decide) ?_
  refine lv_icmp_ne (tgt := 28) hx hb dL_act_14 (by decide) (fun _ => ?_) (fun h9 => absurd h9 (by decide))
  refine lv_iload_n hx hb dL_act_28 rfl (lv_at hl 1 rfl) ?_
  refine lv_iconst (v := 2) hx hb dL_act_29 (by decide) ?_
  refine lv_icmp_ne (tgt := 41) hx hb dL_act_30 (by decide) (fun _ => ?_) (fun h9 => absurd h9 (by decide))
  refine lv_iload_n hx hb dL_act_41 rfl (lv_at hl 1 rfl) ?_
  refine lv_iconst (v := 3) hx hb dL_act_42 (by decide) ?_
  refine lv_icmp_ne (tgt := 59) hx hb dL_act_43 (by decide) (fun _ => ?_) (fun h9 => absurd h9 (by decide))
  refine lv_iload_n hx hb dL_act_59 rfl (lv_at hl 1 rfl) ?_
  refine lv_iconst (v := 4) hx hb dL_act_60 (by decide) ?_
  refine lv_icmp_ne (tgt := 77) hx hb dL_act_61 (by decide) (fun _ => ?_) (fun h9 => absurd h9 (by decide))
  refine lv_iload_n hx hb dL_act_77 rfl (lv_at hl 1 rfl) ?_
  refine lv_iconst (v := 5) hx hb dL_act_78 (by decide) ?_
  refine lv_icmp_ne (tgt := 91) hx hb dL_act_79 (by decide) (fun _ => ?_) (fun h9 => absurd h9 (by decide))
  refine lv_iload_n hx hb dL_act_91 rfl (lv_at hl 1 rfl) ?_
  refine lv_bipush (v := 6) hx hb dL_act_92 (by decide) ?_
  refine lv_icmp_ne (tgt := 106) hx hb dL_act_94 (by decide) (fun _ => ?_) (fun h9 => absurd h9 (by decide))
  refine lv_iload_n hx hb dL_act_106 rfl (lv_at hl 1 rfl) ?_
  refine lv_bipush (v := 7) hx hb dL_act_107 (by decide) ?_
  refine lv_icmp_ne (tgt := 120) hx hb dL_act_109 (by decide) (fun _ => ?_) (fun h9 => absurd h9 (by decide))
  refine lv_iload_n hx hb dL_act_120 rfl (lv_at hl 1 rfl) ?_
  refine lv_bipush (v := 8) hx hb dL_act_121 (by decide) ?_
  refine lv_icmp_ne (tgt := 134) hx hb dL_act_123 (by decide) (fun _ => ?_) (fun h9 => absurd h9 (by decide))
  refine lv_iload_n hx hb dL_act_134 rfl (lv_at hl 1 rfl) ?_
  refine lv_bipush (v := 9) hx hb dL_act_135 (by decide) ?_
  refine lv_icmp_ne (tgt := 153) hx hb dL_act_137 (by decide) (fun _ => ?_) (fun h9 => absurd h9 (by decide))
  refine lv_iload_n hx hb dL_act_153 rfl (lv_at hl 1 rfl) ?_
  refine lv_bipush (v := 10) hx hb dL_act_154 (by decide) ?_
  refine lv_icmp_ne (tgt := 178) hx hb dL_act_156 (by decide) (fun _ => ?_) (fun h9 => absurd h9 (by decide))
  refine lv_iload_n hx hb dL_act_178 rfl (lv_at hl 1 rfl) ?_
  refine lv_bipush (v := 11) hx hb dL_act_179 (by decide) ?_
  refine lv_icmp_ne (tgt := 195) hx hb dL_act_181 (by decide) (fun _ => ?_) (fun h9 => absurd h9 (by decide))
  refine lv_iload_n hx hb dL_act_195 rfl (lv_at hl 1 rfl) ?_
  refine lv_bipush (v := 12) hx hb dL_act_196 (by decide) ?_
  refine lv_icmp_ne (tgt := 210) hx hb dL_act_198 (by decide) (fun _ => ?_) (fun h9 => absurd h9 (by decide))
  refine lv_iload_n hx hb dL_act_210 rfl (lv_at hl 1 rfl) ?_
  refine lv_bipush (v := 13) hx hb dL_act_211 (by decide) ?_
  refine lv_icmp_ne (tgt := 227) hx hb dL_act_213 (by decide) (fun _ => ?_) (fun h9 => absurd h9 (by decide))
  refine lv_iload_n hx hb dL_act_227 rfl (lv_at hl 1 rfl) ?_
  refine lv_bipush (v := 14) hx hb dL_act_228 (by decide) ?_
  refine lv_icmp_ne (tgt := 244) hx hb dL_act_230 (by decide) (fun _ => ?_) (fun h9 => absurd h9 (by decide))
  refine lv_iload_n hx hb dL_act_244 rfl (lv_at hl 1 rfl) ?_
  refine lv_bipush (v := 15) hx hb dL_act_245 (by decide) ?_
  refine lv_icmp_ne (tgt := 259) hx hb dL_act_247 (by decide) (fun _ => ?_) (fun h9 => absurd h9 (by decide))
  refine lv_iload_n hx hb dL_act_259 rfl (lv_at hl 1 rfl) ?_
  refine lv_bipush (v := 16) hx hb dL_act_260 (by decide) ?_
  refine lv_icmp_ne (tgt := 274) hx hb dL_act_262 (by decide) (fun _ => ?_) (fun h9 => absurd h9 (by decide))
  refine lv_iload_n hx hb dL_act_274 rfl (lv_at hl 1 rfl) ?_
  refine lv_bipush (v := 17) hx hb dL_act_275 (by decide) ?_
  refine lv_icmp_ne (tgt := 288) hx hb dL_act_277 (by decide) (fun _ => ?_) (fun h9 => absurd h9 (by decide))
  refine lv_aload_n hx hb dL_act_288 rfl (lv_at hl 0 rfl) ?_
  refine lv_iload_n hx hb dL_act_289 rfl (lv_at hl 2 rfl) ?_
  refine px_ic hw (vx_runV (As := [.int x]) (rest := []) CF (hc _) (cwV 1 hts gL_act_X6_billed rfl rfl rfl (by decide +kernel) ⟨Nat.le_of_ble_eq_true rfl, Nat.le_of_ble_eq_true rfl⟩) (pm_preV hw hs (pm_recv hw hq0 hf0 rfl)) rfl rfl hl.1 rfl (lv_room (Nat.le_of_ble_eq_true rfl)) dL_act_290 ⟨Nat.le_of_ble_eq_true rfl, Nat.le_of_ble_eq_true rfl⟩) (fun E ce q9 L1 f1 H1 locs1 he hw1 h1 h2 h3 => ?_) (fun r L1 f1 H locs hp hw => ?_)
  · obtain ⟨q, hq, rfl⟩ := exL_mem _ he.1
    rcases hD q hq with e9 | e9 | e9
    · rw [e9] at h3 he
      refine vx_catch hown [] ⟨0, 293, 294, 71⟩ [⟨0, 293, 299, 74⟩, ⟨0, 293, 304, 77⟩] (by rw [htab]; rfl) (fun z hz => absurd hz List.not_mem_nil) (by decide) (by decide) (hts (.classLink RL 71 "java/lang/IndexOutOfBoundsException") (by decide +kernel)) (va_Nw.use rfl (hs.2.2.2.1 ("java/lang/IndexOutOfBoundsException", "java/lang/IndexOutOfBoundsException") (by decide +kernel))) h1 h2 h3 ?_
      refine lv_astore (lv' := [(6, .ref q9), (0, .ref o), (1, .int 18), (2, .int x), (3, .int y), (4, .int z), (5, .int w)]) hx hb dL_act_294 hl (by decide) rfl (fun ls hl => ?_)
      refine lv_ldc (v := (-90000001)) hx hb hown (hts (.constant RL 73 (-90000001)) (by decide +kernel)) dL_act_296 ?_
      exact vx_ret (pr_i (v := (-90000001)) hx hb hr hlocks hw1 rfl ⟨Nat.le_of_ble_eq_true rfl, Nat.le_of_ble_eq_true rfl⟩ (Or.inr ⟨_, he, cE_i.symm⟩) dL_act_298)
    · rw [e9] at h3 he
      refine vx_catch hown [⟨0, 293, 294, 71⟩] ⟨0, 293, 299, 74⟩ [⟨0, 293, 304, 77⟩] (by rw [htab]; rfl) (fun z hz => by
              simp only [List.mem_cons, List.not_mem_nil, or_false] at hz
              subst hz
              exact Or.inr ⟨by decide, "java/lang/IndexOutOfBoundsException", hts (.classLink RL 71 "java/lang/IndexOutOfBoundsException") (by decide +kernel), hn ("java/lang/IllegalArgumentException", "java/lang/IndexOutOfBoundsException") (by decide +kernel)⟩) (by decide) (by decide) (hts (.classLink RL 74 "java/lang/IllegalArgumentException") (by decide +kernel)) (va_Nw.use rfl (hs.2.2.2.1 ("java/lang/IllegalArgumentException", "java/lang/IllegalArgumentException") (by decide +kernel))) h1 h2 h3 ?_
      refine lv_astore (lv' := [(6, .ref q9), (0, .ref o), (1, .int 18), (2, .int x), (3, .int y), (4, .int z), (5, .int w)]) hx hb dL_act_299 hl (by decide) rfl (fun ls hl => ?_)
      refine lv_ldc (v := (-90000002)) hx hb hown (hts (.constant RL 76 (-90000002)) (by decide +kernel)) dL_act_301 ?_
      exact vx_ret (pr_i (v := (-90000002)) hx hb hr hlocks hw1 rfl ⟨Nat.le_of_ble_eq_true rfl, Nat.le_of_ble_eq_true rfl⟩ (Or.inr ⟨_, he, cE_a.symm⟩) dL_act_303)
    · rw [e9] at h3 he
      refine vx_catch hown [⟨0, 293, 294, 71⟩, ⟨0, 293, 299, 74⟩] ⟨0, 293, 304, 77⟩ [] (by rw [htab]; rfl) (fun z hz => by
              simp only [List.mem_cons, List.not_mem_nil, or_false] at hz
              rcases hz with rfl | rfl
              · exact Or.inr ⟨by decide, "java/lang/IndexOutOfBoundsException", hts (.classLink RL 71 "java/lang/IndexOutOfBoundsException") (by decide +kernel), hn ("java/lang/IllegalStateException", "java/lang/IndexOutOfBoundsException") (by decide +kernel)⟩
              · exact Or.inr ⟨by decide, "java/lang/IllegalArgumentException", hts (.classLink RL 74 "java/lang/IllegalArgumentException") (by decide +kernel), hn ("java/lang/IllegalStateException", "java/lang/IllegalArgumentException") (by decide +kernel)⟩) (by decide) (by decide) (hts (.classLink RL 77 "java/lang/IllegalStateException") (by decide +kernel)) (va_Nw.use rfl (hs.2.2.2.1 ("java/lang/IllegalStateException", "java/lang/IllegalStateException") (by decide +kernel))) h1 h2 h3 ?_
      refine lv_astore (lv' := [(6, .ref q9), (0, .ref o), (1, .int 18), (2, .int x), (3, .int y), (4, .int z), (5, .int w)]) hx hb dL_act_304 hl (by decide) rfl (fun ls hl => ?_)
      refine lv_ldc (v := (-90000003)) hx hb hown (hts (.constant RL 79 (-90000003)) (by decide +kernel)) dL_act_306 ?_
      exact vx_ret (pr_i (v := (-90000003)) hx hb hr hlocks hw1 rfl ⟨Nat.le_of_ble_eq_true rfl, Nat.le_of_ble_eq_true rfl⟩ (Or.inr ⟨_, he, cE_s.symm⟩) dL_act_308)
  · exact vx_ret (pr_i (v := r) hx hb hr hlocks hw rfl ⟨Nat.le_of_ble_eq_true rfl, Nat.le_of_ble_eq_true rfl⟩ (Or.inl hp) dL_act_293)

end ACT
