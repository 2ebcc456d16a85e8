/-! the law's methods that catch -/
section WRAP
/-- what stands behind a call that the law made with its answer written into o -/
def WrP (g : GE) (o : Nat) (post : Int32 → PE → Prop) (ex : String → PE → Prop) (codes : List (String × Int32)) (r : Int32) (u : PE) : Prop :=
  ∃ (La : List Nat) (f1 : Nat → va_E) (ro : Nat → Int64), o ∉ La ∧ u.1 = La ++ [o] ∧ (∀ b, b ∈ La → u.2 b = f1 b) ∧ u.2 o = .inl (g.2.1 4, 1, .inr (.inl ro)) ∧
    ((r = 0 ∧ ∃ v, post v (La, f1) ∧ ro 0 = v.toInt64) ∨ ∃ E, ex E (La, f1) ∧ (E, r) ∈ codes)
theorem mix_o {o : Nat} {f f1 : Nat → va_E} : mix [o] f f1 o = f o := if_pos (List.mem_singleton.mpr rfl)
theorem mix_n {o b : Nat} {f f1 : Nat → va_E} (h : b ≠ o) : mix [o] f f1 b = f1 b := if_neg (fun h9 => h (List.mem_singleton.mp h9))

set_option maxHeartbeats 4000000 in
set_option maxRecDepth 100000 in
theorem w_open (l : Launch) (g : GE) (Lc : List Nat) (f : Nat → va_E) (a0 o : Nat) (fs : List Value) (ro : Nat → Int64) (x : Int32) (post : Int32 → PE → Prop) (ex : String → PE → Prop) (hc : Xi l yX6_open wsX6_open (rmH 8 6 300) g Lc f [.ref a0, .int x] post ex 6 300) (hE : ∀ E u, ex E u → E = "java/lang/IllegalArgumentException" ∨ E = "java/lang/IllegalStateException") (hq0 : a0 ∈ Lc) (hf0 : f a0 = .inr (8, fs)) (ho : o ∉ Lc) (hfo : f o = .inl (g.2.1 4, 1, .inr (.inl ro))) : Ni l yL_open wsL_open (rmH 9 6 300) g (Lc ++ [o]) f [.ref a0, .int x, .ref o] (WrP g o post ex [("java/lang/IllegalArgumentException", 1), ("java/lang/IllegalStateException", 2)]) 6 300 := by
  intro sz
  refine vx_ofWH (cc := cL_open) (maxL := 4) (ret := some .int) (hh := [(0, 9, 12, 13), (0, 9, 15, 15)]) (by decide) rfl ?_
  intro p e s m args below meth c s₁ B hml hv
  obtain ⟨rfl, hv⟩ := hv
  have hx := B.exec
  have hb := B.bytes
  have hr := B.returns
  have hts := atoms_spec (ws := wsL_open) B.pre
  have hown : s.vm.findClass RL = some m.cls := findClass_of_methodNamed B.named
  have hlocks := B.notSynchronized
  have htab := vx_table (x := yL_open) B (hts (.codeWith yL_open cL_open 4 (some .int) [(0, 9, 12, 13), (0, 9, 15, 15)]) List.mem_cons_self)
  obtain ⟨⟨rfl, hw, hs⟩, hn⟩ := pn_begin hv
  generalize va_A (va_pl (Lc ++ [o]) f) s.heap.size = A at hw hs ⊢
  have CF := (⟨hx, hb, hml, hown, hts⟩ : CallFix p m c cL_open 4 s _ wsL_open RL)
  have hl := lv_entry ([.ref a0, .int x, .ref o]) (n := 4) (Nat.le_of_ble_eq_true rfl)
  rw [lg_entry_eq]
  generalize (lg_sl ([.ref a0, .int x, .ref o]) ++ List.replicate (4 - (lg_sl ([.ref a0, .int x, .ref o])).length) Slot.unset).toArray = ls at hl ⊢
  have hl : lv_has ls 4 [(0, .ref a0), (1, .int x), (2, .ref o)] := hl
  have hnd := hw.nodup
  have hP : Pt (Lc ++ [o]) Lc [o] := ⟨fun b hb => List.mem_append_left _ hb, fun b hb => List.mem_append_right _ hb, (List.nodup_append.mp hnd).1, List.nodup_cons.mpr ⟨List.not_mem_nil, List.nodup_nil⟩, fun b hb h9 => ho (List.mem_singleton.mp h9 ▸ hb)⟩
  refine lv_aload_n hx hb dL_open_0 rfl (lv_at hl 2 rfl) ?_
  refine lv_iconst (v := 0) hx hb dL_open_1 (by decide) ?_
  refine lv_aload_n hx hb dL_open_2 rfl (lv_at hl 0 rfl) ?_
  refine lv_iload_n hx hb dL_open_3 rfl (lv_at hl 1 rfl) ?_
  refine pfx_ic hP hw (vx_runV (As := [.int x]) (rest := [.int 0, .ref o]) CF (hc _) (cwV 1 hts gL_open_X6_open rfl rfl rfl (by decide +kernel) ⟨Nat.le_of_ble_eq_true rfl, Nat.le_of_ble_eq_true rfl⟩) (pm_preV (hw.sub hP.1 hP.2.2.1) hs (pm_recv (hw.sub hP.1 hP.2.2.1) hq0 hf0 rfl)) rfl rfl hl.1 rfl (lv_room (Nat.le_of_ble_eq_true rfl)) dL_open_4 ⟨Nat.le_of_ble_eq_true rfl, Nat.le_of_ble_eq_true rfl⟩) (fun E ce q9 La f1 H1 locs1 he hd hw1 h1 h2 h3 => ?_) (fun r La f1 H locs hp hd hw => ?_)
  · rcases hE E _ he with rfl | rfl
    · refine vx_catch hown [] ⟨0, 9, 12, 13⟩ [⟨0, 9, 15, 15⟩] (by rw [htab]; rfl) (fun z hz => absurd hz List.not_mem_nil) (by decide) (by decide) (hts (.classLink RL 13 "java/lang/IllegalArgumentException") (by decide +kernel)) (va_Nw.use rfl (hs.2.2.2.1 ("java/lang/IllegalArgumentException", "java/lang/IllegalArgumentException") (by decide +kernel))) h1 h2 h3 ?_
      refine lv_astore_n (lv' := [(3, .ref q9), (0, .ref a0), (1, .int x), (2, .ref o)]) hx hb dL_open_12 rfl hl (by decide) rfl (fun ls hl => ?_)
      refine lv_iconst (v := 1) hx hb dL_open_13 (by decide) ?_
      exact vx_ret (pr_i (v := 1) hx hb hr hlocks hw1 rfl ⟨Nat.le_of_ble_eq_true rfl, Nat.le_of_ble_eq_true rfl⟩ (⟨La, f1, ro, fun h9 => hd o h9 (List.mem_singleton.mpr rfl), rfl, fun b hb => mix_n (fun e9 => hd b hb (e9 ▸ List.mem_singleton.mpr rfl)), mix_o.trans hfo, Or.inr ⟨_, he, by decide +kernel⟩⟩) dL_open_14)
    · refine vx_catch hown [⟨0, 9, 12, 13⟩] ⟨0, 9, 15, 15⟩ [] (by rw [htab]; rfl) (fun z hz => by
          simp only [List.mem_cons, List.not_mem_nil, or_false] at hz
          subst hz
          exact Or.inr ⟨by decide, "java/lang/IllegalArgumentException", hts (.classLink RL 13 "java/lang/IllegalArgumentException") (by decide +kernel), hn ("java/lang/IllegalStateException", "java/lang/IllegalArgumentException") (by decide +kernel)⟩) (by decide) (by decide) (hts (.classLink RL 15 "java/lang/IllegalStateException") (by decide +kernel)) (va_Nw.use rfl (hs.2.2.2.1 ("java/lang/IllegalStateException", "java/lang/IllegalStateException") (by decide +kernel))) h1 h2 h3 ?_
      refine lv_astore_n (lv' := [(3, .ref q9), (0, .ref a0), (1, .int x), (2, .ref o)]) hx hb dL_open_15 rfl hl (by decide) rfl (fun ls hl => ?_)
      refine lv_iconst (v := 2) hx hb dL_open_16 (by decide) ?_
      exact vx_ret (pr_i (v := 2) hx hb hr hlocks hw1 rfl ⟨Nat.le_of_ble_eq_true rfl, Nat.le_of_ble_eq_true rfl⟩ (⟨La, f1, ro, fun h9 => hd o h9 (List.mem_singleton.mpr rfl), rfl, fun b hb => mix_n (fun e9 => hd b hb (e9 ▸ List.mem_singleton.mpr rfl)), mix_o.trans hfo, Or.inr ⟨_, he, by decide +kernel⟩⟩) dL_open_17)
  · refine lv_i2l (v := r.toInt64) hx hb dL_open_7 rfl ?_
    refine pm_last (n := 1) (r := ro) hx hb hw (List.mem_append_right _ (List.mem_singleton.mpr rfl)) (mix_o.trans hfo) (j := 0) rfl (by unfold vp_in; decide) dL_open_8 (fun H locs hw => ?_)
    refine lv_goto (tgt := 18) hx hb dL_open_9 (by decide) ?_
    refine lv_iconst (v := 0) hx hb dL_open_18 (by decide) ?_
    exact vx_ret (pr_i (v := 0) hx hb hr hlocks hw rfl ⟨Nat.le_of_ble_eq_true rfl, Nat.le_of_ble_eq_true rfl⟩ (⟨La, f1, _, fun h9 => hd o h9 (List.mem_singleton.mpr rfl), rfl, fun b hb => (fun (n9 : b ≠ o) => pu_n n9 (mix_n n9)) (fun e9 => hd b hb (e9 ▸ List.mem_singleton.mpr rfl)), pu_s, Or.inl ⟨rfl, r, hp, rfl⟩⟩) dL_open_19)

set_option maxHeartbeats 4000000 in
set_option maxRecDepth 100000 in
theorem w_setWeight (l : Launch) (g : GE) (Lc : List Nat) (f : Nat → va_E) (a0 o : Nat) (fs : List Value) (ro : Nat → Int64) (x y z : Int32) (post : Int32 → PE → Prop) (ex : String → PE → Prop) (hc : Xi l yX6_setWeight wsX6_setWeight (rmH 2 4 24) g Lc f [.ref a0, .int x, .int y, .int z] post ex 4 24) (hE : ∀ E u, ex E u → E = "java/lang/IndexOutOfBoundsException" ∨ E = "java/lang/IllegalArgumentException" ∨ E = "java/lang/IllegalStateException") (hq0 : a0 ∈ Lc) (hf0 : f a0 = .inr (8, fs)) (ho : o ∉ Lc) (hfo : f o = .inl (g.2.1 4, 1, .inr (.inl ro))) : Ni l yL_setWeight wsL_setWeight (rmH 3 4 24) g (Lc ++ [o]) f [.ref a0, .int x, .int y, .int z, .ref o] (WrP g o post ex [("java/lang/IndexOutOfBoundsException", 1), ("java/lang/IllegalArgumentException", 2), ("java/lang/IllegalStateException", 3)]) 4 24 := by
  intro sz
  refine vx_ofWH (cc := cL_setWeight) (maxL := 6) (ret := some .int) (hh := [(0, 12, 15, 21), (0, 12, 19, 13), (0, 12, 23, 15)]) (by decide) rfl ?_
  intro p e s m args below meth c s₁ B hml hv
  obtain ⟨rfl, hv⟩ := hv
  have hx := B.exec
  have hb := B.bytes
  have hr := B.returns
  have hts := atoms_spec (ws := wsL_setWeight) B.pre
  have hown : s.vm.findClass RL = some m.cls := findClass_of_methodNamed B.named
  have hlocks := B.notSynchronized
  have htab := vx_table (x := yL_open) B (hts (.codeWith yL_setWeight cL_setWeight 6 (some .int) [(0, 12, 15, 21), (0, 12, 19, 13), (0, 12, 23, 15)]) List.mem_cons_self)
  obtain ⟨⟨rfl, hw, hs⟩, hn⟩ := pn_begin hv
  generalize va_A (va_pl (Lc ++ [o]) f) s.heap.size = A at hw hs ⊢
  have CF := (⟨hx, hb, hml, hown, hts⟩ : CallFix p m c cL_setWeight 6 s _ wsL_setWeight RL)
  have hl := lv_entry ([.ref a0, .int x, .int y, .int z, .ref o]) (n := 6) (Nat.le_of_ble_eq_true rfl)
  rw [lg_entry_eq]
  generalize (lg_sl ([.ref a0, .int x, .int y, .int z, .ref o]) ++ List.replicate (6 - (lg_sl ([.ref a0, .int x, .int y, .int z, .ref o])).length) Slot.unset).toArray = ls at hl ⊢
  have hl : lv_has ls 6 [(0, .ref a0), (1, .int x), (2, .int y), (3, .int z), (4, .ref o)] := hl
  have hnd := hw.nodup
  have hP : Pt (Lc ++ [o]) Lc [o] := ⟨fun b hb => List.mem_append_left _ hb, fun b hb => List.mem_append_right _ hb, (List.nodup_append.mp hnd).1, List.nodup_cons.mpr ⟨List.not_mem_nil, List.nodup_nil⟩, fun b hb h9 => ho (List.mem_singleton.mp h9 ▸ hb)⟩
  refine lv_aload hx hb dL_setWeight_0 (lv_at hl 4 rfl) ?_
  refine lv_iconst (v := 0) hx hb dL_setWeight_2 (by decide) ?_
  refine lv_aload_n hx hb dL_setWeight_3 rfl (lv_at hl 0 rfl) ?_
  refine lv_iload_n hx hb dL_setWeight_4 rfl (lv_at hl 1 rfl) ?_
  refine lv_iload_n hx hb dL_setWeight_5 rfl (lv_at hl 2 rfl) ?_
  refine lv_iload_n hx hb dL_setWeight_6 rfl (lv_at hl 3 rfl) ?_
  refine pfx_ic hP hw (vx_runV (As := [.int x, .int y, .int z]) (rest := [.int 0, .ref o]) CF (hc _) (cwV 3 hts gL_setWeight_X6_setWeight rfl rfl rfl (by decide +kernel) ⟨Nat.le_of_ble_eq_true rfl, Nat.le_of_ble_eq_true rfl⟩) (pm_preV (hw.sub hP.1 hP.2.2.1) hs (pm_recv (hw.sub hP.1 hP.2.2.1) hq0 hf0 rfl)) rfl rfl hl.1 rfl (lv_room (Nat.le_of_ble_eq_true rfl)) dL_setWeight_7 ⟨Nat.le_of_ble_eq_true rfl, Nat.le_of_ble_eq_true rfl⟩) (fun E ce q9 La f1 H1 locs1 he hd hw1 h1 h2 h3 => ?_) (fun r La f1 H locs hp hd hw => ?_)
  · rcases hE E _ he with rfl | rfl | rfl
    · refine vx_catch hown [] ⟨0, 12, 15, 21⟩ [⟨0, 12, 19, 13⟩, ⟨0, 12, 23, 15⟩] (by rw [htab]; rfl) (fun z hz => absurd hz List.not_mem_nil) (by decide) (by decide) (hts (.classLink RL 21 "java/lang/IndexOutOfBoundsException") (by decide +kernel)) (va_Nw.use rfl (hs.2.2.2.1 ("java/lang/IndexOutOfBoundsException", "java/lang/IndexOutOfBoundsException") (by decide +kernel))) h1 h2 h3 ?_
      refine lv_astore (lv' := [(5, .ref q9), (0, .ref a0), (1, .int x), (2, .int y), (3, .int z), (4, .ref o)]) hx hb dL_setWeight_15 hl (by decide) rfl (fun ls hl => ?_)
      refine lv_iconst (v := 1) hx hb dL_setWeight_17 (by decide) ?_
      exact vx_ret (pr_i (v := 1) hx hb hr hlocks hw1 rfl ⟨Nat.le_of_ble_eq_true rfl, Nat.le_of_ble_eq_true rfl⟩ (⟨La, f1, ro, fun h9 => hd o h9 (List.mem_singleton.mpr rfl), rfl, fun b hb => mix_n (fun e9 => hd b hb (e9 ▸ List.mem_singleton.mpr rfl)), mix_o.trans hfo, Or.inr ⟨_, he, by decide +kernel⟩⟩) dL_setWeight_18)
    · refine vx_catch hown [⟨0, 12, 15, 21⟩] ⟨0, 12, 19, 13⟩ [⟨0, 12, 23, 15⟩] (by rw [htab]; rfl) (fun z hz => by
          simp only [List.mem_cons, List.not_mem_nil, or_false] at hz
          subst hz
          exact Or.inr ⟨by decide, "java/lang/IndexOutOfBoundsException", hts (.classLink RL 21 "java/lang/IndexOutOfBoundsException") (by decide +kernel), hn ("java/lang/IllegalArgumentException", "java/lang/IndexOutOfBoundsException") (by decide +kernel)⟩) (by decide) (by decide) (hts (.classLink RL 13 "java/lang/IllegalArgumentException") (by decide +kernel)) (va_Nw.use rfl (hs.2.2.2.1 ("java/lang/IllegalArgumentException", "java/lang/IllegalArgumentException") (by decide +kernel))) h1 h2 h3 ?_
      refine lv_astore (lv' := [(5, .ref q9), (0, .ref a0), (1, .int x), (2, .int y), (3, .int z), (4, .ref o)]) hx hb dL_setWeight_19 hl (by decide) rfl (fun ls hl => ?_)
      refine lv_iconst (v := 2) hx hb dL_setWeight_21 (by decide) ?_
      exact vx_ret (pr_i (v := 2) hx hb hr hlocks hw1 rfl ⟨Nat.le_of_ble_eq_true rfl, Nat.le_of_ble_eq_true rfl⟩ (⟨La, f1, ro, fun h9 => hd o h9 (List.mem_singleton.mpr rfl), rfl, fun b hb => mix_n (fun e9 => hd b hb (e9 ▸ List.mem_singleton.mpr rfl)), mix_o.trans hfo, Or.inr ⟨_, he, by decide +kernel⟩⟩) dL_setWeight_22)
    · refine vx_catch hown [⟨0, 12, 15, 21⟩, ⟨0, 12, 19, 13⟩] ⟨0, 12, 23, 15⟩ [] (by rw [htab]; rfl) (fun z hz => by
          simp only [List.mem_cons, List.not_mem_nil, or_false] at hz
          rcases hz with rfl | rfl
          · exact Or.inr ⟨by decide, "java/lang/IndexOutOfBoundsException", hts (.classLink RL 21 "java/lang/IndexOutOfBoundsException") (by decide +kernel), hn ("java/lang/IllegalStateException", "java/lang/IndexOutOfBoundsException") (by decide +kernel)⟩
          · exact Or.inr ⟨by decide, "java/lang/IllegalArgumentException", hts (.classLink RL 13 "java/lang/IllegalArgumentException") (by decide +kernel), hn ("java/lang/IllegalStateException", "java/lang/IllegalArgumentException") (by decide +kernel)⟩) (by decide) (by decide) (hts (.classLink RL 15 "java/lang/IllegalStateException") (by decide +kernel)) (va_Nw.use rfl (hs.2.2.2.1 ("java/lang/IllegalStateException", "java/lang/IllegalStateException") (by decide +kernel))) h1 h2 h3 ?_
      refine lv_astore (lv' := [(5, .ref q9), (0, .ref a0), (1, .int x), (2, .int y), (3, .int z), (4, .ref o)]) hx hb dL_setWeight_23 hl (by decide) rfl (fun ls hl => ?_)
      refine lv_iconst (v := 3) hx hb dL_setWeight_25 (by decide) ?_
      exact vx_ret (pr_i (v := 3) hx hb hr hlocks hw1 rfl ⟨Nat.le_of_ble_eq_true rfl, Nat.le_of_ble_eq_true rfl⟩ (⟨La, f1, ro, fun h9 => hd o h9 (List.mem_singleton.mpr rfl), rfl, fun b hb => mix_n (fun e9 => hd b hb (e9 ▸ List.mem_singleton.mpr rfl)), mix_o.trans hfo, Or.inr ⟨_, he, by decide +kernel⟩⟩) dL_setWeight_26)
  · refine lv_i2l (v := r.toInt64) hx hb dL_setWeight_10 rfl ?_
    refine pm_last (n := 1) (r := ro) hx hb hw (List.mem_append_right _ (List.mem_singleton.mpr rfl)) (mix_o.trans hfo) (j := 0) rfl (by unfold vp_in; decide) dL_setWeight_11 (fun H locs hw => ?_)
    refine lv_goto (tgt := 27) hx hb dL_setWeight_12 (by decide) ?_
    refine lv_iconst (v := 0) hx hb dL_setWeight_27 (by decide) ?_
    exact vx_ret (pr_i (v := 0) hx hb hr hlocks hw rfl ⟨Nat.le_of_ble_eq_true rfl, Nat.le_of_ble_eq_true rfl⟩ (⟨La, f1, _, fun h9 => hd o h9 (List.mem_singleton.mpr rfl), rfl, fun b hb => (fun (n9 : b ≠ o) => pu_n n9 (mix_n n9)) (fun e9 => hd b hb (e9 ▸ List.mem_singleton.mpr rfl)), pu_s, Or.inl ⟨rfl, r, hp, rfl⟩⟩) dL_setWeight_28)

set_option maxHeartbeats 4000000 in
set_option maxRecDepth 100000 in
theorem w_pass (l : Launch) (g : GE) (Lc : List Nat) (f : Nat → va_E) (a0 o : Nat) (fs : List Value) (ro : Nat → Int64) (x : Int32) (post : Int32 → PE → Prop) (ex : String → PE → Prop) (hc : Xi l yX6_pass wsX6_pass (rmH 1 1 6) g Lc f [.ref a0, .int x] post ex 1 6) (hE : ∀ E u, ex E u → E = "java/lang/IllegalArgumentException") (hq0 : a0 ∈ Lc) (hf0 : f a0 = .inr (8, fs)) (ho : o ∉ Lc) (hfo : f o = .inl (g.2.1 4, 1, .inr (.inl ro))) : Ni l yL_pass wsL_pass (rmH 2 1 6) g (Lc ++ [o]) f [.ref a0, .int x, .ref o] (WrP g o post ex [("java/lang/IllegalArgumentException", 1)]) 1 6 := by
  intro sz
  refine vx_ofWH (cc := cL_pass) (maxL := 4) (ret := some .int) (hh := [(0, 9, 12, 13)]) (by decide) rfl ?_
  intro p e s m args below meth c s₁ B hml hv
  obtain ⟨rfl, hv⟩ := hv
  have hx := B.exec
  have hb := B.bytes
  have hr := B.returns
  have hts := atoms_spec (ws := wsL_pass) B.pre
  have hown : s.vm.findClass RL = some m.cls := findClass_of_methodNamed B.named
  have hlocks := B.notSynchronized
  have htab := vx_table (x := yL_open) B (hts (.codeWith yL_pass cL_pass 4 (some .int) [(0, 9, 12, 13)]) List.mem_cons_self)
  obtain ⟨⟨rfl, hw, hs⟩, hn⟩ := pn_begin hv
  generalize va_A (va_pl (Lc ++ [o]) f) s.heap.size = A at hw hs ⊢
  have CF := (⟨hx, hb, hml, hown, hts⟩ : CallFix p m c cL_pass 4 s _ wsL_pass RL)
  have hl := lv_entry ([.ref a0, .int x, .ref o]) (n := 4) (Nat.le_of_ble_eq_true rfl)
  rw [lg_entry_eq]
  generalize (lg_sl ([.ref a0, .int x, .ref o]) ++ List.replicate (4 - (lg_sl ([.ref a0, .int x, .ref o])).length) Slot.unset).toArray = ls at hl ⊢
  have hl : lv_has ls 4 [(0, .ref a0), (1, .int x), (2, .ref o)] := hl
  have hnd := hw.nodup
  have hP : Pt (Lc ++ [o]) Lc [o] := ⟨fun b hb => List.mem_append_left _ hb, fun b hb => List.mem_append_right _ hb, (List.nodup_append.mp hnd).1, List.nodup_cons.mpr ⟨List.not_mem_nil, List.nodup_nil⟩, fun b hb h9 => ho (List.mem_singleton.mp h9 ▸ hb)⟩
  refine lv_aload_n hx hb dL_pass_0 rfl (lv_at hl 2 rfl) ?_
  refine lv_iconst (v := 0) hx hb dL_pass_1 (by decide) ?_
  refine lv_aload_n hx hb dL_pass_2 rfl (lv_at hl 0 rfl) ?_
  refine lv_iload_n hx hb dL_pass_3 rfl (lv_at hl 1 rfl) ?_
  refine pfx_ic hP hw (vx_runV (As := [.int x]) (rest := [.int 0, .ref o]) CF (hc _) (cwV 1 hts gL_pass_X6_pass rfl rfl rfl (by decide +kernel) ⟨Nat.le_of_ble_eq_true rfl, Nat.le_of_ble_eq_true rfl⟩) (pm_preV (hw.sub hP.1 hP.2.2.1) hs (pm_recv (hw.sub hP.1 hP.2.2.1) hq0 hf0 rfl)) rfl rfl hl.1 rfl (lv_room (Nat.le_of_ble_eq_true rfl)) dL_pass_4 ⟨Nat.le_of_ble_eq_true rfl, Nat.le_of_ble_eq_true rfl⟩) (fun E ce q9 La f1 H1 locs1 he hd hw1 h1 h2 h3 => ?_) (fun r La f1 H locs hp hd hw => ?_)
  · obtain rfl := hE E _ he
    refine vx_catch hown [] ⟨0, 9, 12, 13⟩ [] (by rw [htab]; rfl) (fun z hz => absurd hz List.not_mem_nil) (by decide) (by decide) (hts (.classLink RL 13 "java/lang/IllegalArgumentException") (by decide +kernel)) (va_Nw.use rfl (hs.2.2.2.1 ("java/lang/IllegalArgumentException", "java/lang/IllegalArgumentException") (by decide +kernel))) h1 h2 h3 ?_
    refine lv_astore_n (lv' := [(3, .ref q9), (0, .ref a0), (1, .int x), (2, .ref o)]) hx hb dL_pass_12 rfl hl (by decide) rfl (fun ls hl => ?_)
    refine lv_iconst (v := 1) hx hb dL_pass_13 (by decide) ?_
    exact vx_ret (pr_i (v := 1) hx hb hr hlocks hw1 rfl ⟨Nat.le_of_ble_eq_true rfl, Nat.le_of_ble_eq_true rfl⟩ (⟨La, f1, ro, fun h9 => hd o h9 (List.mem_singleton.mpr rfl), rfl, fun b hb => mix_n (fun e9 => hd b hb (e9 ▸ List.mem_singleton.mpr rfl)), mix_o.trans hfo, Or.inr ⟨_, he, by decide +kernel⟩⟩) dL_pass_14)
  · refine lv_i2l (v := r.toInt64) hx hb dL_pass_7 rfl ?_
    refine pm_last (n := 1) (r := ro) hx hb hw (List.mem_append_right _ (List.mem_singleton.mpr rfl)) (mix_o.trans hfo) (j := 0) rfl (by unfold vp_in; decide) dL_pass_8 (fun H locs hw => ?_)
    refine lv_goto (tgt := 15) hx hb dL_pass_9 (by decide) ?_
    refine lv_iconst (v := 0) hx hb dL_pass_15 (by decide) ?_
    exact vx_ret (pr_i (v := 0) hx hb hr hlocks hw rfl ⟨Nat.le_of_ble_eq_true rfl, Nat.le_of_ble_eq_true rfl⟩ (⟨La, f1, _, fun h9 => hd o h9 (List.mem_singleton.mpr rfl), rfl, fun b hb => (fun (n9 : b ≠ o) => pu_n n9 (mix_n n9)) (fun e9 => hd b hb (e9 ▸ List.mem_singleton.mpr rfl)), pu_s, Or.inl ⟨rfl, r, hp, rfl⟩⟩) dL_pass_16)

set_option maxHeartbeats 4000000 in
set_option maxRecDepth 100000 in
theorem w_change (l : Launch) (g : GE) (Lc : List Nat) (f : Nat → va_E) (a0 o : Nat) (fs : List Value) (ro : Nat → Int64) (x y z w : Int32) (post : Int32 → PE → Prop) (ex : String → PE → Prop) (hc : Xi l yX6_change wsX6_change (rmH 9 8 524) g Lc f [.ref a0, .int x, .int y, .int z, .int w] post ex 8 524) (hE : ∀ E u, ex E u → E = "java/lang/IndexOutOfBoundsException" ∨ E = "java/lang/IllegalArgumentException" ∨ E = "java/lang/IllegalStateException") (hq0 : a0 ∈ Lc) (hf0 : f a0 = .inr (8, fs)) (ho : o ∉ Lc) (hfo : f o = .inl (g.2.1 4, 1, .inr (.inl ro))) : Ni l yL_change wsL_change (rmH 10 8 524) g (Lc ++ [o]) f [.ref a0, .int x, .int y, .int z, .int w, .ref o] (WrP g o post ex [("java/lang/IndexOutOfBoundsException", 1), ("java/lang/IllegalArgumentException", 2), ("java/lang/IllegalStateException", 3)]) 8 524 := by
  intro sz
  refine vx_ofWH (cc := cL_change) (maxL := 7) (ret := some .int) (hh := [(0, 14, 17, 21), (0, 14, 21, 13), (0, 14, 25, 15)]) (by decide) rfl ?_
  intro p e s m args below meth c s₁ B hml hv
  obtain ⟨rfl, hv⟩ := hv
  have hx := B.exec
  have hb := B.bytes
  have hr := B.returns
  have hts := atoms_spec (ws := wsL_change) B.pre
  have hown : s.vm.findClass RL = some m.cls := findClass_of_methodNamed B.named
  have hlocks := B.notSynchronized
  have htab := vx_table (x := yL_open) B (hts (.codeWith yL_change cL_change 7 (some .int) [(0, 14, 17, 21), (0, 14, 21, 13), (0, 14, 25, 15)]) List.mem_cons_self)
  obtain ⟨⟨rfl, hw, hs⟩, hn⟩ := pn_begin hv
  generalize va_A (va_pl (Lc ++ [o]) f) s.heap.size = A at hw hs ⊢
  have CF := (⟨hx, hb, hml, hown, hts⟩ : CallFix p m c cL_change 7 s _ wsL_change RL)
  have hl := lv_entry ([.ref a0, .int x, .int y, .int z, .int w, .ref o]) (n := 7) (Nat.le_of_ble_eq_true rfl)
  rw [lg_entry_eq]
  generalize (lg_sl ([.ref a0, .int x, .int y, .int z, .int w, .ref o]) ++ List.replicate (7 - (lg_sl ([.ref a0, .int x, .int y, .int z, .int w, .ref o])).length) Slot.unset).toArray = ls at hl ⊢
  have hl : lv_has ls 7 [(0, .ref a0), (1, .int x), (2, .int y), (3, .int z), (4, .int w), (5, .ref o)] := hl
  have hnd := hw.nodup
  have hP : Pt (Lc ++ [o]) Lc [o] := ⟨fun b hb => List.mem_append_left _ hb, fun b hb => List.mem_append_right _ hb, (List.nodup_append.mp hnd).1, List.nodup_cons.mpr ⟨List.not_mem_nil, List.nodup_nil⟩, fun b hb h9 => ho (List.mem_singleton.mp h9 ▸ hb)⟩
  refine lv_aload hx hb dL_change_0 (lv_at hl 5 rfl) ?_
  refine lv_iconst (v := 0) hx hb dL_change_2 (by decide) ?_
  refine lv_aload_n hx hb dL_change_3 rfl (lv_at hl 0 rfl) ?_
  refine lv_iload_n hx hb dL_change_4 rfl (lv_at hl 1 rfl) ?_
  refine lv_iload_n hx hb dL_change_5 rfl (lv_at hl 2 rfl) ?_
  refine lv_iload_n hx hb dL_change_6 rfl (lv_at hl 3 rfl) ?_
  refine lv_iload hx hb dL_change_7 (lv_at hl 4 rfl) ?_
  refine pfx_ic hP hw (vx_runV (As := [.int x, .int y, .int z, .int w]) (rest := [.int 0, .ref o]) CF (hc _) (cwV 4 hts gL_change_X6_change rfl rfl rfl (by decide +kernel) ⟨Nat.le_of_ble_eq_true rfl, Nat.le_of_ble_eq_true rfl⟩) (pm_preV (hw.sub hP.1 hP.2.2.1) hs (pm_recv (hw.sub hP.1 hP.2.2.1) hq0 hf0 rfl)) rfl rfl hl.1 rfl (lv_room (Nat.le_of_ble_eq_true rfl)) dL_change_9 ⟨Nat.le_of_ble_eq_true rfl, Nat.le_of_ble_eq_true rfl⟩) (fun E ce q9 La f1 H1 locs1 he hd hw1 h1 h2 h3 => ?_) (fun r La f1 H locs hp hd hw => ?_)
  · rcases hE E _ he with rfl | rfl | rfl
    · refine vx_catch hown [] ⟨0, 14, 17, 21⟩ [⟨0, 14, 21, 13⟩, ⟨0, 14, 25, 15⟩] (by rw [htab]; rfl) (fun z hz => absurd hz List.not_mem_nil) (by decide) (by decide) (hts (.classLink RL 21 "java/lang/IndexOutOfBoundsException") (by decide +kernel)) (va_Nw.use rfl (hs.2.2.2.1 ("java/lang/IndexOutOfBoundsException", "java/lang/IndexOutOfBoundsException") (by decide +kernel))) h1 h2 h3 ?_
      refine lv_astore (lv' := [(6, .ref q9), (0, .ref a0), (1, .int x), (2, .int y), (3, .int z), (4, .int w), (5, .ref o)]) hx hb dL_change_17 hl (by decide) rfl (fun ls hl => ?_)
      refine lv_iconst (v := 1) hx hb dL_change_19 (by decide) ?_
      exact vx_ret (pr_i (v := 1) hx hb hr hlocks hw1 rfl ⟨Nat.le_of_ble_eq_true rfl, Nat.le_of_ble_eq_true rfl⟩ (⟨La, f1, ro, fun h9 => hd o h9 (List.mem_singleton.mpr rfl), rfl, fun b hb => mix_n (fun e9 => hd b hb (e9 ▸ List.mem_singleton.mpr rfl)), mix_o.trans hfo, Or.inr ⟨_, he, by decide +kernel⟩⟩) dL_change_20)
    · refine vx_catch hown [⟨0, 14, 17, 21⟩] ⟨0, 14, 21, 13⟩ [⟨0, 14, 25, 15⟩] (by rw [htab]; rfl) (fun z hz => by
          simp only [List.mem_cons, List.not_mem_nil, or_false] at hz
          subst hz
          exact Or.inr ⟨by decide, "java/lang/IndexOutOfBoundsException", hts (.classLink RL 21 "java/lang/IndexOutOfBoundsException") (by decide +kernel), hn ("java/lang/IllegalArgumentException", "java/lang/IndexOutOfBoundsException") (by decide +kernel)⟩) (by decide) (by decide) (hts (.classLink RL 13 "java/lang/IllegalArgumentException") (by decide +kernel)) (va_Nw.use rfl (hs.2.2.2.1 ("java/lang/IllegalArgumentException", "java/lang/IllegalArgumentException") (by decide +kernel))) h1 h2 h3 ?_
      refine lv_astore (lv' := [(6, .ref q9), (0, .ref a0), (1, .int x), (2, .int y), (3, .int z), (4, .int w), (5, .ref o)]) hx hb dL_change_21 hl (by decide) rfl (fun ls hl => ?_)
      refine lv_iconst (v := 2) hx hb dL_change_23 (by decide) ?_
      exact vx_ret (pr_i (v := 2) hx hb hr hlocks hw1 rfl ⟨Nat.le_of_ble_eq_true rfl, Nat.le_of_ble_eq_true rfl⟩ (⟨La, f1, ro, fun h9 => hd o h9 (List.mem_singleton.mpr rfl), rfl, fun b hb => mix_n (fun e9 => hd b hb (e9 ▸ List.mem_singleton.mpr rfl)), mix_o.trans hfo, Or.inr ⟨_, he, by decide +kernel⟩⟩) dL_change_24)
    · refine vx_catch hown [⟨0, 14, 17, 21⟩, ⟨0, 14, 21, 13⟩] ⟨0, 14, 25, 15⟩ [] (by rw [htab]; rfl) (fun z hz => by
          simp only [List.mem_cons, List.not_mem_nil, or_false] at hz
          rcases hz with rfl | rfl
          · exact Or.inr ⟨by decide, "java/lang/IndexOutOfBoundsException", hts (.classLink RL 21 "java/lang/IndexOutOfBoundsException") (by decide +kernel), hn ("java/lang/IllegalStateException", "java/lang/IndexOutOfBoundsException") (by decide +kernel)⟩
          · exact Or.inr ⟨by decide, "java/lang/IllegalArgumentException", hts (.classLink RL 13 "java/lang/IllegalArgumentException") (by decide +kernel), hn ("java/lang/IllegalStateException", "java/lang/IllegalArgumentException") (by decide +kernel)⟩) (by decide) (by decide) (hts (.classLink RL 15 "java/lang/IllegalStateException") (by decide +kernel)) (va_Nw.use rfl (hs.2.2.2.1 ("java/lang/IllegalStateException", "java/lang/IllegalStateException") (by decide +kernel))) h1 h2 h3 ?_
      refine lv_astore (lv' := [(6, .ref q9), (0, .ref a0), (1, .int x), (2, .int y), (3, .int z), (4, .int w), (5, .ref o)]) hx hb dL_change_25 hl (by decide) rfl (fun ls hl => ?_)
      refine lv_iconst (v := 3) hx hb dL_change_27 (by decide) ?_
      exact vx_ret (pr_i (v := 3) hx hb hr hlocks hw1 rfl ⟨Nat.le_of_ble_eq_true rfl, Nat.le_of_ble_eq_true rfl⟩ (⟨La, f1, ro, fun h9 => hd o h9 (List.mem_singleton.mpr rfl), rfl, fun b hb => mix_n (fun e9 => hd b hb (e9 ▸ List.mem_singleton.mpr rfl)), mix_o.trans hfo, Or.inr ⟨_, he, by decide +kernel⟩⟩) dL_change_28)
  · refine lv_i2l (v := r.toInt64) hx hb dL_change_12 rfl ?_
    refine pm_last (n := 1) (r := ro) hx hb hw (List.mem_append_right _ (List.mem_singleton.mpr rfl)) (mix_o.trans hfo) (j := 0) rfl (by unfold vp_in; decide) dL_change_13 (fun H locs hw => ?_)
    refine lv_goto (tgt := 29) hx hb dL_change_14 (by decide) ?_
    refine lv_iconst (v := 0) hx hb dL_change_29 (by decide) ?_
    exact vx_ret (pr_i (v := 0) hx hb hr hlocks hw rfl ⟨Nat.le_of_ble_eq_true rfl, Nat.le_of_ble_eq_true rfl⟩ (⟨La, f1, _, fun h9 => hd o h9 (List.mem_singleton.mpr rfl), rfl, fun b hb => (fun (n9 : b ≠ o) => pu_n n9 (mix_n n9)) (fun e9 => hd b hb (e9 ▸ List.mem_singleton.mpr rfl)), pu_s, Or.inl ⟨rfl, r, hp, rfl⟩⟩) dL_change_30)

set_option maxHeartbeats 4000000 in
set_option maxRecDepth 100000 in
theorem w_add (l : Launch) (g : GE) (Lc : List Nat) (f : Nat → va_E) (a0 o : Nat) (fs : List Value) (ro : Nat → Int64) (x y z w : Int32) (post : Int32 → PE → Prop) (ex : String → PE → Prop) (hc : Xi l yX6_add wsX6_add (rmH 9 8 524) g Lc f [.ref a0, .int x, .int y, .int z, .int w] post ex 8 524) (hE : ∀ E u, ex E u → E = "java/lang/IndexOutOfBoundsException" ∨ E = "java/lang/IllegalArgumentException" ∨ E = "java/lang/IllegalStateException") (hq0 : a0 ∈ Lc) (hf0 : f a0 = .inr (8, fs)) (ho : o ∉ Lc) (hfo : f o = .inl (g.2.1 4, 1, .inr (.inl ro))) : Ni l yL_add wsL_add (rmH 10 8 524) g (Lc ++ [o]) f [.ref a0, .int x, .int y, .int z, .int w, .ref o] (WrP g o post ex [("java/lang/IndexOutOfBoundsException", 1), ("java/lang/IllegalArgumentException", 2), ("java/lang/IllegalStateException", 3)]) 8 524 := by
  intro sz
  refine vx_ofWH (cc := cL_add) (maxL := 7) (ret := some .int) (hh := [(0, 14, 17, 21), (0, 14, 21, 13), (0, 14, 25, 15)]) (by decide) rfl ?_
  intro p e s m args below meth c s₁ B hml hv
  obtain ⟨rfl, hv⟩ := hv
  have hx := B.exec
  have hb := B.bytes
  have hr := B.returns
  have hts := atoms_spec (ws := wsL_add) B.pre
  have hown : s.vm.findClass RL = some m.cls := findClass_of_methodNamed B.named
  have hlocks := B.notSynchronized
  have htab := vx_table (x := yL_open) B (hts (.codeWith yL_add cL_add 7 (some .int) [(0, 14, 17, 21), (0, 14, 21, 13), (0, 14, 25, 15)]) List.mem_cons_self)
  obtain ⟨⟨rfl, hw, hs⟩, hn⟩ := pn_begin hv
  generalize va_A (va_pl (Lc ++ [o]) f) s.heap.size = A at hw hs ⊢
  have CF := (⟨hx, hb, hml, hown, hts⟩ : CallFix p m c cL_add 7 s _ wsL_add RL)
  have hl := lv_entry ([.ref a0, .int x, .int y, .int z, .int w, .ref o]) (n := 7) (Nat.le_of_ble_eq_true rfl)
  rw [lg_entry_eq]
  generalize (lg_sl ([.ref a0, .int x, .int y, .int z, .int w, .ref o]) ++ List.replicate (7 - (lg_sl ([.ref a0, .int x, .int y, .int z, .int w, .ref o])).length) Slot.unset).toArray = ls at hl ⊢
  have hl : lv_has ls 7 [(0, .ref a0), (1, .int x), (2, .int y), (3, .int z), (4, .int w), (5, .ref o)] := hl
  have hnd := hw.nodup
  have hP : Pt (Lc ++ [o]) Lc [o] := ⟨fun b hb => List.mem_append_left _ hb, fun b hb => List.mem_append_right _ hb, (List.nodup_append.mp hnd).1, List.nodup_cons.mpr ⟨List.not_mem_nil, List.nodup_nil⟩, fun b hb h9 => ho (List.mem_singleton.mp h9 ▸ hb)⟩
  refine lv_aload hx hb dL_add_0 (lv_at hl 5 rfl) ?_
  refine lv_iconst (v := 0) hx hb dL_add_2 (by decide) ?_
  refine lv_aload_n hx hb dL_add_3 rfl (lv_at hl 0 rfl) ?_
  refine lv_iload_n hx hb dL_add_4 rfl (lv_at hl 1 rfl) ?_
  refine lv_iload_n hx hb dL_add_5 rfl (lv_at hl 2 rfl) ?_
  refine lv_iload_n hx hb dL_add_6 rfl (lv_at hl 3 rfl) ?_
  refine lv_iload hx hb dL_add_7 (lv_at hl 4 rfl) ?_
  refine pfx_ic hP hw (vx_runV (As := [.int x, .int y, .int z, .int w]) (rest := [.int 0, .ref o]) CF (hc _) (cwV 4 hts gL_add_X6_add rfl rfl rfl (by decide +kernel) ⟨Nat.le_of_ble_eq_true rfl, Nat.le_of_ble_eq_true rfl⟩) (pm_preV (hw.sub hP.1 hP.2.2.1) hs (pm_recv (hw.sub hP.1 hP.2.2.1) hq0 hf0 rfl)) rfl rfl hl.1 rfl (lv_room (Nat.le_of_ble_eq_true rfl)) dL_add_9 ⟨Nat.le_of_ble_eq_true rfl, Nat.le_of_ble_eq_true rfl⟩) (fun E ce q9 La f1 H1 locs1 he hd hw1 h1 h2 h3 => ?_) (fun r La f1 H locs hp hd hw => ?_)
  · rcases hE E _ he with rfl | rfl | rfl
    · refine vx_catch hown [] ⟨0, 14, 17, 21⟩ [⟨0, 14, 21, 13⟩, ⟨0, 14, 25, 15⟩] (by rw [htab]; rfl) (fun z hz => absurd hz List.not_mem_nil) (by decide) (by decide) (hts (.classLink RL 21 "java/lang/IndexOutOfBoundsException") (by decide +kernel)) (va_Nw.use rfl (hs.2.2.2.1 ("java/lang/IndexOutOfBoundsException", "java/lang/IndexOutOfBoundsException") (by decide +kernel))) h1 h2 h3 ?_
      refine lv_astore (lv' := [(6, .ref q9), (0, .ref a0), (1, .int x), (2, .int y), (3, .int z), (4, .int w), (5, .ref o)]) hx hb dL_add_17 hl (by decide) rfl (fun ls hl => ?_)
      refine lv_iconst (v := 1) hx hb dL_add_19 (by decide) ?_
      exact vx_ret (pr_i (v := 1) hx hb hr hlocks hw1 rfl ⟨Nat.le_of_ble_eq_true rfl, Nat.le_of_ble_eq_true rfl⟩ (⟨La, f1, ro, fun h9 => hd o h9 (List.mem_singleton.mpr rfl), rfl, fun b hb => mix_n (fun e9 => hd b hb (e9 ▸ List.mem_singleton.mpr rfl)), mix_o.trans hfo, Or.inr ⟨_, he, by decide +kernel⟩⟩) dL_add_20)
    · refine vx_catch hown [⟨0, 14, 17, 21⟩] ⟨0, 14, 21, 13⟩ [⟨0, 14, 25, 15⟩] (by rw [htab]; rfl) (fun z hz => by
          simp only [List.mem_cons, List.not_mem_nil, or_false] at hz
          subst hz
          exact Or.inr ⟨by decide, "java/lang/IndexOutOfBoundsException", hts (.classLink RL 21 "java/lang/IndexOutOfBoundsException") (by decide +kernel), hn ("java/lang/IllegalArgumentException", "java/lang/IndexOutOfBoundsException") (by decide +kernel)⟩) (by decide) (by decide) (hts (.classLink RL 13 "java/lang/IllegalArgumentException") (by decide +kernel)) (va_Nw.use rfl (hs.2.2.2.1 ("java/lang/IllegalArgumentException", "java/lang/IllegalArgumentException") (by decide +kernel))) h1 h2 h3 ?_
      refine lv_astore (lv' := [(6, .ref q9), (0, .ref a0), (1, .int x), (2, .int y), (3, .int z), (4, .int w), (5, .ref o)]) hx hb dL_add_21 hl (by decide) rfl (fun ls hl => ?_)
      refine lv_iconst (v := 2) hx hb dL_add_23 (by decide) ?_
      exact vx_ret (pr_i (v := 2) hx hb hr hlocks hw1 rfl ⟨Nat.le_of_ble_eq_true rfl, Nat.le_of_ble_eq_true rfl⟩ (⟨La, f1, ro, fun h9 => hd o h9 (List.mem_singleton.mpr rfl), rfl, fun b hb => mix_n (fun e9 => hd b hb (e9 ▸ List.mem_singleton.mpr rfl)), mix_o.trans hfo, Or.inr ⟨_, he, by decide +kernel⟩⟩) dL_add_24)
    · refine vx_catch hown [⟨0, 14, 17, 21⟩, ⟨0, 14, 21, 13⟩] ⟨0, 14, 25, 15⟩ [] (by rw [htab]; rfl) (fun z hz => by
          simp only [List.mem_cons, List.not_mem_nil, or_false] at hz
          rcases hz with rfl | rfl
          · exact Or.inr ⟨by decide, "java/lang/IndexOutOfBoundsException", hts (.classLink RL 21 "java/lang/IndexOutOfBoundsException") (by decide +kernel), hn ("java/lang/IllegalStateException", "java/lang/IndexOutOfBoundsException") (by decide +kernel)⟩
          · exact Or.inr ⟨by decide, "java/lang/IllegalArgumentException", hts (.classLink RL 13 "java/lang/IllegalArgumentException") (by decide +kernel), hn ("java/lang/IllegalStateException", "java/lang/IllegalArgumentException") (by decide +kernel)⟩) (by decide) (by decide) (hts (.classLink RL 15 "java/lang/IllegalStateException") (by decide +kernel)) (va_Nw.use rfl (hs.2.2.2.1 ("java/lang/IllegalStateException", "java/lang/IllegalStateException") (by decide +kernel))) h1 h2 h3 ?_
      refine lv_astore (lv' := [(6, .ref q9), (0, .ref a0), (1, .int x), (2, .int y), (3, .int z), (4, .int w), (5, .ref o)]) hx hb dL_add_25 hl (by decide) rfl (fun ls hl => ?_)
      refine lv_iconst (v := 3) hx hb dL_add_27 (by decide) ?_
      exact vx_ret (pr_i (v := 3) hx hb hr hlocks hw1 rfl ⟨Nat.le_of_ble_eq_true rfl, Nat.le_of_ble_eq_true rfl⟩ (⟨La, f1, ro, fun h9 => hd o h9 (List.mem_singleton.mpr rfl), rfl, fun b hb => mix_n (fun e9 => hd b hb (e9 ▸ List.mem_singleton.mpr rfl)), mix_o.trans hfo, Or.inr ⟨_, he, by decide +kernel⟩⟩) dL_add_28)
  · refine lv_i2l (v := r.toInt64) hx hb dL_add_12 rfl ?_
    refine pm_last (n := 1) (r := ro) hx hb hw (List.mem_append_right _ (List.mem_singleton.mpr rfl)) (mix_o.trans hfo) (j := 0) rfl (by unfold vp_in; decide) dL_add_13 (fun H locs hw => ?_)
    refine lv_goto (tgt := 29) hx hb dL_add_14 (by decide) ?_
    refine lv_iconst (v := 0) hx hb dL_add_29 (by decide) ?_
    exact vx_ret (pr_i (v := 0) hx hb hr hlocks hw rfl ⟨Nat.le_of_ble_eq_true rfl, Nat.le_of_ble_eq_true rfl⟩ (⟨La, f1, _, fun h9 => hd o h9 (List.mem_singleton.mpr rfl), rfl, fun b hb => (fun (n9 : b ≠ o) => pu_n n9 (mix_n n9)) (fun e9 => hd b hb (e9 ▸ List.mem_singleton.mpr rfl)), pu_s, Or.inl ⟨rfl, r, hp, rfl⟩⟩) dL_add_30)

set_option maxHeartbeats 4000000 in
set_option maxRecDepth 100000 in
theorem w_cancel (l : Launch) (g : GE) (Lc : List Nat) (f : Nat → va_E) (a0 o : Nat) (fs : List Value) (ro : Nat → Int64) (x y : Int32) (post : Int32 → PE → Prop) (ex : String → PE → Prop) (hc : Xi l yX6_cancel wsX6_cancel (rmH 9 6 512) g Lc f [.ref a0, .int x, .int y] post ex 6 512) (hE : ∀ E u, ex E u → E = "java/lang/IndexOutOfBoundsException" ∨ E = "java/lang/IllegalArgumentException" ∨ E = "java/lang/IllegalStateException") (hq0 : a0 ∈ Lc) (hf0 : f a0 = .inr (8, fs)) (ho : o ∉ Lc) (hfo : f o = .inl (g.2.1 4, 1, .inr (.inl ro))) : Ni l yL_cancel wsL_cancel (rmH 10 6 512) g (Lc ++ [o]) f [.ref a0, .int x, .int y, .ref o] (WrP g o post ex [("java/lang/IndexOutOfBoundsException", 1), ("java/lang/IllegalArgumentException", 2), ("java/lang/IllegalStateException", 3)]) 6 512 := by
  intro sz
  refine vx_ofWH (cc := cL_cancel) (maxL := 5) (ret := some .int) (hh := [(0, 10, 13, 21), (0, 10, 17, 13), (0, 10, 21, 15)]) (by decide) rfl ?_
  intro p e s m args below meth c s₁ B hml hv
  obtain ⟨rfl, hv⟩ := hv
  have hx := B.exec
  have hb := B.bytes
  have hr := B.returns
  have hts := atoms_spec (ws := wsL_cancel) B.pre
  have hown : s.vm.findClass RL = some m.cls := findClass_of_methodNamed B.named
  have hlocks := B.notSynchronized
  have htab := vx_table (x := yL_open) B (hts (.codeWith yL_cancel cL_cancel 5 (some .int) [(0, 10, 13, 21), (0, 10, 17, 13), (0, 10, 21, 15)]) List.mem_cons_self)
  obtain ⟨⟨rfl, hw, hs⟩, hn⟩ := pn_begin hv
  generalize va_A (va_pl (Lc ++ [o]) f) s.heap.size = A at hw hs ⊢
  have CF := (⟨hx, hb, hml, hown, hts⟩ : CallFix p m c cL_cancel 5 s _ wsL_cancel RL)
  have hl := lv_entry ([.ref a0, .int x, .int y, .ref o]) (n := 5) (Nat.le_of_ble_eq_true rfl)
  rw [lg_entry_eq]
  generalize (lg_sl ([.ref a0, .int x, .int y, .ref o]) ++ List.replicate (5 - (lg_sl ([.ref a0, .int x, .int y, .ref o])).length) Slot.unset).toArray = ls at hl ⊢
  have hl : lv_has ls 5 [(0, .ref a0), (1, .int x), (2, .int y), (3, .ref o)] := hl
  have hnd := hw.nodup
  have hP : Pt (Lc ++ [o]) Lc [o] := ⟨fun b hb => List.mem_append_left _ hb, fun b hb => List.mem_append_right _ hb, (List.nodup_append.mp hnd).1, List.nodup_cons.mpr ⟨List.not_mem_nil, List.nodup_nil⟩, fun b hb h9 => ho (List.mem_singleton.mp h9 ▸ hb)⟩
  refine lv_aload_n hx hb dL_cancel_0 rfl (lv_at hl 3 rfl) ?_
  refine lv_iconst (v := 0) hx hb dL_cancel_1 (by decide) ?_
  refine lv_aload_n hx hb dL_cancel_2 rfl (lv_at hl 0 rfl) ?_
  refine lv_iload_n hx hb dL_cancel_3 rfl (lv_at hl 1 rfl) ?_
  refine lv_iload_n hx hb dL_cancel_4 rfl (lv_at hl 2 rfl) ?_
  refine pfx_ic hP hw (vx_runV (As := [.int x, .int y]) (rest := [.int 0, .ref o]) CF (hc _) (cwV 2 hts gL_cancel_X6_cancel rfl rfl rfl (by decide +kernel) ⟨Nat.le_of_ble_eq_true rfl, Nat.le_of_ble_eq_true rfl⟩) (pm_preV (hw.sub hP.1 hP.2.2.1) hs (pm_recv (hw.sub hP.1 hP.2.2.1) hq0 hf0 rfl)) rfl rfl hl.1 rfl (lv_room (Nat.le_of_ble_eq_true rfl)) dL_cancel_5 ⟨Nat.le_of_ble_eq_true rfl, Nat.le_of_ble_eq_true rfl⟩) (fun E ce q9 La f1 H1 locs1 he hd hw1 h1 h2 h3 => ?_) (fun r La f1 H locs hp hd hw => ?_)
  · rcases hE E _ he with rfl | rfl | rfl
    · refine vx_catch hown [] ⟨0, 10, 13, 21⟩ [⟨0, 10, 17, 13⟩, ⟨0, 10, 21, 15⟩] (by rw [htab]; rfl) (fun z hz => absurd hz List.not_mem_nil) (by decide) (by decide) (hts (.classLink RL 21 "java/lang/IndexOutOfBoundsException") (by decide +kernel)) (va_Nw.use rfl (hs.2.2.2.1 ("java/lang/IndexOutOfBoundsException", "java/lang/IndexOutOfBoundsException") (by decide +kernel))) h1 h2 h3 ?_
      refine lv_astore (lv' := [(4, .ref q9), (0, .ref a0), (1, .int x), (2, .int y), (3, .ref o)]) hx hb dL_cancel_13 hl (by decide) rfl (fun ls hl => ?_)
      refine lv_iconst (v := 1) hx hb dL_cancel_15 (by decide) ?_
      exact vx_ret (pr_i (v := 1) hx hb hr hlocks hw1 rfl ⟨Nat.le_of_ble_eq_true rfl, Nat.le_of_ble_eq_true rfl⟩ (⟨La, f1, ro, fun h9 => hd o h9 (List.mem_singleton.mpr rfl), rfl, fun b hb => mix_n (fun e9 => hd b hb (e9 ▸ List.mem_singleton.mpr rfl)), mix_o.trans hfo, Or.inr ⟨_, he, by decide +kernel⟩⟩) dL_cancel_16)
    · refine vx_catch hown [⟨0, 10, 13, 21⟩] ⟨0, 10, 17, 13⟩ [⟨0, 10, 21, 15⟩] (by rw [htab]; rfl) (fun z hz => by
          simp only [List.mem_cons, List.not_mem_nil, or_false] at hz
          subst hz
          exact Or.inr ⟨by decide, "java/lang/IndexOutOfBoundsException", hts (.classLink RL 21 "java/lang/IndexOutOfBoundsException") (by decide +kernel), hn ("java/lang/IllegalArgumentException", "java/lang/IndexOutOfBoundsException") (by decide +kernel)⟩) (by decide) (by decide) (hts (.classLink RL 13 "java/lang/IllegalArgumentException") (by decide +kernel)) (va_Nw.use rfl (hs.2.2.2.1 ("java/lang/IllegalArgumentException", "java/lang/IllegalArgumentException") (by decide +kernel))) h1 h2 h3 ?_
      refine lv_astore (lv' := [(4, .ref q9), (0, .ref a0), (1, .int x), (2, .int y), (3, .ref o)]) hx hb dL_cancel_17 hl (by decide) rfl (fun ls hl => ?_)
      refine lv_iconst (v := 2) hx hb dL_cancel_19 (by decide) ?_
      exact vx_ret (pr_i (v := 2) hx hb hr hlocks hw1 rfl ⟨Nat.le_of_ble_eq_true rfl, Nat.le_of_ble_eq_true rfl⟩ (⟨La, f1, ro, fun h9 => hd o h9 (List.mem_singleton.mpr rfl), rfl, fun b hb => mix_n (fun e9 => hd b hb (e9 ▸ List.mem_singleton.mpr rfl)), mix_o.trans hfo, Or.inr ⟨_, he, by decide +kernel⟩⟩) dL_cancel_20)
    · refine vx_catch hown [⟨0, 10, 13, 21⟩, ⟨0, 10, 17, 13⟩] ⟨0, 10, 21, 15⟩ [] (by rw [htab]; rfl) (fun z hz => by
          simp only [List.mem_cons, List.not_mem_nil, or_false] at hz
          rcases hz with rfl | rfl
          · exact Or.inr ⟨by decide, "java/lang/IndexOutOfBoundsException", hts (.classLink RL 21 "java/lang/IndexOutOfBoundsException") (by decide +kernel), hn ("java/lang/IllegalStateException", "java/lang/IndexOutOfBoundsException") (by decide +kernel)⟩
          · exact Or.inr ⟨by decide, "java/lang/IllegalArgumentException", hts (.classLink RL 13 "java/lang/IllegalArgumentException") (by decide +kernel), hn ("java/lang/IllegalStateException", "java/lang/IllegalArgumentException") (by decide +kernel)⟩) (by decide) (by decide) (hts (.classLink RL 15 "java/lang/IllegalStateException") (by decide +kernel)) (va_Nw.use rfl (hs.2.2.2.1 ("java/lang/IllegalStateException", "java/lang/IllegalStateException") (by decide +kernel))) h1 h2 h3 ?_
      refine lv_astore (lv' := [(4, .ref q9), (0, .ref a0), (1, .int x), (2, .int y), (3, .ref o)]) hx hb dL_cancel_21 hl (by decide) rfl (fun ls hl => ?_)
      refine lv_iconst (v := 3) hx hb dL_cancel_23 (by decide) ?_
      exact vx_ret (pr_i (v := 3) hx hb hr hlocks hw1 rfl ⟨Nat.le_of_ble_eq_true rfl, Nat.le_of_ble_eq_true rfl⟩ (⟨La, f1, ro, fun h9 => hd o h9 (List.mem_singleton.mpr rfl), rfl, fun b hb => mix_n (fun e9 => hd b hb (e9 ▸ List.mem_singleton.mpr rfl)), mix_o.trans hfo, Or.inr ⟨_, he, by decide +kernel⟩⟩) dL_cancel_24)
  · refine lv_i2l (v := r.toInt64) hx hb dL_cancel_8 rfl ?_
    refine pm_last (n := 1) (r := ro) hx hb hw (List.mem_append_right _ (List.mem_singleton.mpr rfl)) (mix_o.trans hfo) (j := 0) rfl (by unfold vp_in; decide) dL_cancel_9 (fun H locs hw => ?_)
    refine lv_goto (tgt := 25) hx hb dL_cancel_10 (by decide) ?_
    refine lv_iconst (v := 0) hx hb dL_cancel_25 (by decide) ?_
    exact vx_ret (pr_i (v := 0) hx hb hr hlocks hw rfl ⟨Nat.le_of_ble_eq_true rfl, Nat.le_of_ble_eq_true rfl⟩ (⟨La, f1, _, fun h9 => hd o h9 (List.mem_singleton.mpr rfl), rfl, fun b hb => (fun (n9 : b ≠ o) => pu_n n9 (mix_n n9)) (fun e9 => hd b hb (e9 ▸ List.mem_singleton.mpr rfl)), pu_s, Or.inl ⟨rfl, r, hp, rfl⟩⟩) dL_cancel_26)

set_option maxHeartbeats 4000000 in
set_option maxRecDepth 100000 in
theorem w_reinstate (l : Launch) (g : GE) (Lc : List Nat) (f : Nat → va_E) (a0 o : Nat) (fs : List Value) (ro : Nat → Int64) (x y : Int32) (post : Int32 → PE → Prop) (ex : String → PE → Prop) (hc : Xi l yX6_reinstate wsX6_reinstate (rmH 9 6 512) g Lc f [.ref a0, .int x, .int y] post ex 6 512) (hE : ∀ E u, ex E u → E = "java/lang/IndexOutOfBoundsException" ∨ E = "java/lang/IllegalArgumentException" ∨ E = "java/lang/IllegalStateException") (hq0 : a0 ∈ Lc) (hf0 : f a0 = .inr (8, fs)) (ho : o ∉ Lc) (hfo : f o = .inl (g.2.1 4, 1, .inr (.inl ro))) : Ni l yL_reinstate wsL_reinstate (rmH 10 6 512) g (Lc ++ [o]) f [.ref a0, .int x, .int y, .ref o] (WrP g o post ex [("java/lang/IndexOutOfBoundsException", 1), ("java/lang/IllegalArgumentException", 2), ("java/lang/IllegalStateException", 3)]) 6 512 := by
  intro sz
  refine vx_ofWH (cc := cL_reinstate) (maxL := 5) (ret := some .int) (hh := [(0, 10, 13, 21), (0, 10, 17, 13), (0, 10, 21, 15)]) (by decide) rfl ?_
  intro p e s m args below meth c s₁ B hml hv
  obtain ⟨rfl, hv⟩ := hv
  have hx := B.exec
  have hb := B.bytes
  have hr := B.returns
  have hts := atoms_spec (ws := wsL_reinstate) B.pre
  have hown : s.vm.findClass RL = some m.cls := findClass_of_methodNamed B.named
  have hlocks := B.notSynchronized
  have htab := vx_table (x := yL_open) B (hts (.codeWith yL_reinstate cL_reinstate 5 (some .int) [(0, 10, 13, 21), (0, 10, 17, 13), (0, 10, 21, 15)]) List.mem_cons_self)
  obtain ⟨⟨rfl, hw, hs⟩, hn⟩ := pn_begin hv
  generalize va_A (va_pl (Lc ++ [o]) f) s.heap.size = A at hw hs ⊢
  have CF := (⟨hx, hb, hml, hown, hts⟩ : CallFix p m c cL_reinstate 5 s _ wsL_reinstate RL)
  have hl := lv_entry ([.ref a0, .int x, .int y, .ref o]) (n := 5) (Nat.le_of_ble_eq_true rfl)
  rw [lg_entry_eq]
  generalize (lg_sl ([.ref a0, .int x, .int y, .ref o]) ++ List.replicate (5 - (lg_sl ([.ref a0, .int x, .int y, .ref o])).length) Slot.unset).toArray = ls at hl ⊢
  have hl : lv_has ls 5 [(0, .ref a0), (1, .int x), (2, .int y), (3, .ref o)] := hl
  have hnd := hw.nodup
  have hP : Pt (Lc ++ [o]) Lc [o] := ⟨fun b hb => List.mem_append_left _ hb, fun b hb => List.mem_append_right _ hb, (List.nodup_append.mp hnd).1, List.nodup_cons.mpr ⟨List.not_mem_nil, List.nodup_nil⟩, fun b hb h9 => ho (List.mem_singleton.mp h9 ▸ hb)⟩
  refine lv_aload_n hx hb dL_reinstate_0 rfl (lv_at hl 3 rfl) ?_
  refine lv_iconst (v := 0) hx hb dL_reinstate_1 (by decide) ?_
  refine lv_aload_n hx hb dL_reinstate_2 rfl (lv_at hl 0 rfl) ?_
  refine lv_iload_n hx hb dL_reinstate_3 rfl (lv_at hl 1 rfl) ?_
  refine lv_iload_n hx hb dL_reinstate_4 rfl (lv_at hl 2 rfl) ?_
  refine pfx_ic hP hw (vx_runV (As := [.int x, .int y]) (rest := [.int 0, .ref o]) CF (hc _) (cwV 2 hts gL_reinstate_X6_reinstate rfl rfl rfl (by decide +kernel) ⟨Nat.le_of_ble_eq_true rfl, Nat.le_of_ble_eq_true rfl⟩) (pm_preV (hw.sub hP.1 hP.2.2.1) hs (pm_recv (hw.sub hP.1 hP.2.2.1) hq0 hf0 rfl)) rfl rfl hl.1 rfl (lv_room (Nat.le_of_ble_eq_true rfl)) dL_reinstate_5 ⟨Nat.le_of_ble_eq_true rfl, Nat.le_of_ble_eq_true rfl⟩) (fun E ce q9 La f1 H1 locs1 he hd hw1 h1 h2 h3 => ?_) (fun r La f1 H locs hp hd hw => ?_)
  · rcases hE E _ he with rfl | rfl | rfl
    · refine vx_catch hown [] ⟨0, 10, 13, 21⟩ [⟨0, 10, 17, 13⟩, ⟨0, 10, 21, 15⟩] (by rw [htab]; rfl) (fun z hz => absurd hz List.not_mem_nil) (by decide) (by decide) (hts (.classLink RL 21 "java/lang/IndexOutOfBoundsException") (by decide +kernel)) (va_Nw.use rfl (hs.2.2.2.1 ("java/lang/IndexOutOfBoundsException", "java/lang/IndexOutOfBoundsException") (by decide +kernel))) h1 h2 h3 ?_
      refine lv_astore (lv' := [(4, .ref q9), (0, .ref a0), (1, .int x), (2, .int y), (3, .ref o)]) hx hb dL_reinstate_13 hl (by decide) rfl (fun ls hl => ?_)
      refine lv_iconst (v := 1) hx hb dL_reinstate_15 (by decide) ?_
      exact vx_ret (pr_i (v := 1) hx hb hr hlocks hw1 rfl ⟨Nat.le_of_ble_eq_true rfl, Nat.le_of_ble_eq_true rfl⟩ (⟨La, f1, ro, fun h9 => hd o h9 (List.mem_singleton.mpr rfl), rfl, fun b hb => mix_n (fun e9 => hd b hb (e9 ▸ List.mem_singleton.mpr rfl)), mix_o.trans hfo, Or.inr ⟨_, he, by decide +kernel⟩⟩) dL_reinstate_16)
    · refine vx_catch hown [⟨0, 10, 13, 21⟩] ⟨0, 10, 17, 13⟩ [⟨0, 10, 21, 15⟩] (by rw [htab]; rfl) (fun z hz => by
          simp only [List.mem_cons, List.not_mem_nil, or_false] at hz
          subst hz
          exact Or.inr ⟨by decide, "java/lang/IndexOutOfBoundsException", hts (.classLink RL 21 "java/lang/IndexOutOfBoundsException") (by decide +kernel), hn ("java/lang/IllegalArgumentException", "java/lang/IndexOutOfBoundsException") (by decide +kernel)⟩) (by decide) (by decide) (hts (.classLink RL 13 "java/lang/IllegalArgumentException") (by decide +kernel)) (va_Nw.use rfl (hs.2.2.2.1 ("java/lang/IllegalArgumentException", "java/lang/IllegalArgumentException") (by decide +kernel))) h1 h2 h3 ?_
      refine lv_astore (lv' := [(4, .ref q9), (0, .ref a0), (1, .int x), (2, .int y), (3, .ref o)]) hx hb dL_reinstate_17 hl (by decide) rfl (fun ls hl => ?_)
      refine lv_iconst (v := 2) hx hb dL_reinstate_19 (by decide) ?_
      exact vx_ret (pr_i (v := 2) hx hb hr hlocks hw1 rfl ⟨Nat.le_of_ble_eq_true rfl, Nat.le_of_ble_eq_true rfl⟩ (⟨La, f1, ro, fun h9 => hd o h9 (List.mem_singleton.mpr rfl), rfl, fun b hb => mix_n (fun e9 => hd b hb (e9 ▸ List.mem_singleton.mpr rfl)), mix_o.trans hfo, Or.inr ⟨_, he, by decide +kernel⟩⟩) dL_reinstate_20)
    · refine vx_catch hown [⟨0, 10, 13, 21⟩, ⟨0, 10, 17, 13⟩] ⟨0, 10, 21, 15⟩ [] (by rw [htab]; rfl) (fun z hz => by
          simp only [List.mem_cons, List.not_mem_nil, or_false] at hz
          rcases hz with rfl | rfl
          · exact Or.inr ⟨by decide, "java/lang/IndexOutOfBoundsException", hts (.classLink RL 21 "java/lang/IndexOutOfBoundsException") (by decide +kernel), hn ("java/lang/IllegalStateException", "java/lang/IndexOutOfBoundsException") (by decide +kernel)⟩
          · exact Or.inr ⟨by decide, "java/lang/IllegalArgumentException", hts (.classLink RL 13 "java/lang/IllegalArgumentException") (by decide +kernel), hn ("java/lang/IllegalStateException", "java/lang/IllegalArgumentException") (by decide +kernel)⟩) (by decide) (by decide) (hts (.classLink RL 15 "java/lang/IllegalStateException") (by decide +kernel)) (va_Nw.use rfl (hs.2.2.2.1 ("java/lang/IllegalStateException", "java/lang/IllegalStateException") (by decide +kernel))) h1 h2 h3 ?_
      refine lv_astore (lv' := [(4, .ref q9), (0, .ref a0), (1, .int x), (2, .int y), (3, .ref o)]) hx hb dL_reinstate_21 hl (by decide) rfl (fun ls hl => ?_)
      refine lv_iconst (v := 3) hx hb dL_reinstate_23 (by decide) ?_
      exact vx_ret (pr_i (v := 3) hx hb hr hlocks hw1 rfl ⟨Nat.le_of_ble_eq_true rfl, Nat.le_of_ble_eq_true rfl⟩ (⟨La, f1, ro, fun h9 => hd o h9 (List.mem_singleton.mpr rfl), rfl, fun b hb => mix_n (fun e9 => hd b hb (e9 ▸ List.mem_singleton.mpr rfl)), mix_o.trans hfo, Or.inr ⟨_, he, by decide +kernel⟩⟩) dL_reinstate_24)
  · refine lv_i2l (v := r.toInt64) hx hb dL_reinstate_8 rfl ?_
    refine pm_last (n := 1) (r := ro) hx hb hw (List.mem_append_right _ (List.mem_singleton.mpr rfl)) (mix_o.trans hfo) (j := 0) rfl (by unfold vp_in; decide) dL_reinstate_9 (fun H locs hw => ?_)
    refine lv_goto (tgt := 25) hx hb dL_reinstate_10 (by decide) ?_
    refine lv_iconst (v := 0) hx hb dL_reinstate_25 (by decide) ?_
    exact vx_ret (pr_i (v := 0) hx hb hr hlocks hw rfl ⟨Nat.le_of_ble_eq_true rfl, Nat.le_of_ble_eq_true rfl⟩ (⟨La, f1, _, fun h9 => hd o h9 (List.mem_singleton.mpr rfl), rfl, fun b hb => (fun (n9 : b ≠ o) => pu_n n9 (mix_n n9)) (fun e9 => hd b hb (e9 ▸ List.mem_singleton.mpr rfl)), pu_s, Or.inl ⟨rfl, r, hp, rfl⟩⟩) dL_reinstate_26)

set_option maxHeartbeats 4000000 in
set_option maxRecDepth 100000 in
theorem w_takeBack (l : Launch) (g : GE) (Lc : List Nat) (f : Nat → va_E) (a0 o : Nat) (fs : List Value) (ro : Nat → Int64) (x : Int32) (post : Int32 → PE → Prop) (ex : String → PE → Prop) (hc : Xi l yX6_takeBack wsX6_takeBack (rmH 4 2 12) g Lc f [.ref a0, .int x] post ex 2 12) (hE : ∀ E u, ex E u → E = "java/lang/IndexOutOfBoundsException" ∨ E = "java/lang/IllegalStateException") (hq0 : a0 ∈ Lc) (hf0 : f a0 = .inr (8, fs)) (ho : o ∉ Lc) (hfo : f o = .inl (g.2.1 4, 1, .inr (.inl ro))) : Ni l yL_takeBack wsL_takeBack (rmH 5 2 12) g (Lc ++ [o]) f [.ref a0, .int x, .ref o] (WrP g o post ex [("java/lang/IndexOutOfBoundsException", 1), ("java/lang/IllegalStateException", 2)]) 2 12 := by
  intro sz
  refine vx_ofWH (cc := cL_takeBack) (maxL := 4) (ret := some .int) (hh := [(0, 9, 12, 21), (0, 9, 15, 15)]) (by decide) rfl ?_
  intro p e s m args below meth c s₁ B hml hv
  obtain ⟨rfl, hv⟩ := hv
  have hx := B.exec
  have hb := B.bytes
  have hr := B.returns
  have hts := atoms_spec (ws := wsL_takeBack) B.pre
  have hown : s.vm.findClass RL = some m.cls := findClass_of_methodNamed B.named
  have hlocks := B.notSynchronized
  have htab := vx_table (x := yL_open) B (hts (.codeWith yL_takeBack cL_takeBack 4 (some .int) [(0, 9, 12, 21), (0, 9, 15, 15)]) List.mem_cons_self)
  obtain ⟨⟨rfl, hw, hs⟩, hn⟩ := pn_begin hv
  generalize va_A (va_pl (Lc ++ [o]) f) s.heap.size = A at hw hs ⊢
  have CF := (⟨hx, hb, hml, hown, hts⟩ : CallFix p m c cL_takeBack 4 s _ wsL_takeBack RL)
  have hl := lv_entry ([.ref a0, .int x, .ref o]) (n := 4) (Nat.le_of_ble_eq_true rfl)
  rw [lg_entry_eq]
  generalize (lg_sl ([.ref a0, .int x, .ref o]) ++ List.replicate (4 - (lg_sl ([.ref a0, .int x, .ref o])).length) Slot.unset).toArray = ls at hl ⊢
  have hl : lv_has ls 4 [(0, .ref a0), (1, .int x), (2, .ref o)] := hl
  have hnd := hw.nodup
  have hP : Pt (Lc ++ [o]) Lc [o] := ⟨fun b hb => List.mem_append_left _ hb, fun b hb => List.mem_append_right _ hb, (List.nodup_append.mp hnd).1, List.nodup_cons.mpr ⟨List.not_mem_nil, List.nodup_nil⟩, fun b hb h9 => ho (List.mem_singleton.mp h9 ▸ hb)⟩
  refine lv_aload_n hx hb dL_takeBack_0 rfl (lv_at hl 2 rfl) ?_
  refine lv_iconst (v := 0) hx hb dL_takeBack_1 (by decide) ?_
  refine lv_aload_n hx hb dL_takeBack_2 rfl (lv_at hl 0 rfl) ?_
  refine lv_iload_n hx hb dL_takeBack_3 rfl (lv_at hl 1 rfl) ?_
  refine pfx_ic hP hw (vx_runV (As := [.int x]) (rest := [.int 0, .ref o]) CF (hc _) (cwV 1 hts gL_takeBack_X6_takeBack rfl rfl rfl (by decide +kernel) ⟨Nat.le_of_ble_eq_true rfl, Nat.le_of_ble_eq_true rfl⟩) (pm_preV (hw.sub hP.1 hP.2.2.1) hs (pm_recv (hw.sub hP.1 hP.2.2.1) hq0 hf0 rfl)) rfl rfl hl.1 rfl (lv_room (Nat.le_of_ble_eq_true rfl)) dL_takeBack_4 ⟨Nat.le_of_ble_eq_true rfl, Nat.le_of_ble_eq_true rfl⟩) (fun E ce q9 La f1 H1 locs1 he hd hw1 h1 h2 h3 => ?_) (fun r La f1 H locs hp hd hw => ?_)
  · rcases hE E _ he with rfl | rfl
    · refine vx_catch hown [] ⟨0, 9, 12, 21⟩ [⟨0, 9, 15, 15⟩] (by rw [htab]; rfl) (fun z hz => absurd hz List.not_mem_nil) (by decide) (by decide) (hts (.classLink RL 21 "java/lang/IndexOutOfBoundsException") (by decide +kernel)) (va_Nw.use rfl (hs.2.2.2.1 ("java/lang/IndexOutOfBoundsException", "java/lang/IndexOutOfBoundsException") (by decide +kernel))) h1 h2 h3 ?_
      refine lv_astore_n (lv' := [(3, .ref q9), (0, .ref a0), (1, .int x), (2, .ref o)]) hx hb dL_takeBack_12 rfl hl (by decide) rfl (fun ls hl => ?_)
      refine lv_iconst (v := 1) hx hb dL_takeBack_13 (by decide) ?_
      exact vx_ret (pr_i (v := 1) hx hb hr hlocks hw1 rfl ⟨Nat.le_of_ble_eq_true rfl, Nat.le_of_ble_eq_true rfl⟩ (⟨La, f1, ro, fun h9 => hd o h9 (List.mem_singleton.mpr rfl), rfl, fun b hb => mix_n (fun e9 => hd b hb (e9 ▸ List.mem_singleton.mpr rfl)), mix_o.trans hfo, Or.inr ⟨_, he, by decide +kernel⟩⟩) dL_takeBack_14)
    · refine vx_catch hown [⟨0, 9, 12, 21⟩] ⟨0, 9, 15, 15⟩ [] (by rw [htab]; rfl) (fun z hz => by
          simp only [List.mem_cons, List.not_mem_nil, or_false] at hz
          subst hz
          exact Or.inr ⟨by decide, "java/lang/IndexOutOfBoundsException", hts (.classLink RL 21 "java/lang/IndexOutOfBoundsException") (by decide +kernel), hn ("java/lang/IllegalStateException", "java/lang/IndexOutOfBoundsException") (by decide +kernel)⟩) (by decide) (by decide) (hts (.classLink RL 15 "java/lang/IllegalStateException") (by decide +kernel)) (va_Nw.use rfl (hs.2.2.2.1 ("java/lang/IllegalStateException", "java/lang/IllegalStateException") (by decide +kernel))) h1 h2 h3 ?_
      refine lv_astore_n (lv' := [(3, .ref q9), (0, .ref a0), (1, .int x), (2, .ref o)]) hx hb dL_takeBack_15 rfl hl (by decide) rfl (fun ls hl => ?_)
      refine lv_iconst (v := 2) hx hb dL_takeBack_16 (by decide) ?_
      exact vx_ret (pr_i (v := 2) hx hb hr hlocks hw1 rfl ⟨Nat.le_of_ble_eq_true rfl, Nat.le_of_ble_eq_true rfl⟩ (⟨La, f1, ro, fun h9 => hd o h9 (List.mem_singleton.mpr rfl), rfl, fun b hb => mix_n (fun e9 => hd b hb (e9 ▸ List.mem_singleton.mpr rfl)), mix_o.trans hfo, Or.inr ⟨_, he, by decide +kernel⟩⟩) dL_takeBack_17)
  · refine lv_i2l (v := r.toInt64) hx hb dL_takeBack_7 rfl ?_
    refine pm_last (n := 1) (r := ro) hx hb hw (List.mem_append_right _ (List.mem_singleton.mpr rfl)) (mix_o.trans hfo) (j := 0) rfl (by unfold vp_in; decide) dL_takeBack_8 (fun H locs hw => ?_)
    refine lv_goto (tgt := 18) hx hb dL_takeBack_9 (by decide) ?_
    refine lv_iconst (v := 0) hx hb dL_takeBack_18 (by decide) ?_
    exact vx_ret (pr_i (v := 0) hx hb hr hlocks hw rfl ⟨Nat.le_of_ble_eq_true rfl, Nat.le_of_ble_eq_true rfl⟩ (⟨La, f1, _, fun h9 => hd o h9 (List.mem_singleton.mpr rfl), rfl, fun b hb => (fun (n9 : b ≠ o) => pu_n n9 (mix_n n9)) (fun e9 => hd b hb (e9 ▸ List.mem_singleton.mpr rfl)), pu_s, Or.inl ⟨rfl, r, hp, rfl⟩⟩) dL_takeBack_19)

set_option maxHeartbeats 4000000 in
set_option maxRecDepth 100000 in
theorem w_laidAnew (l : Launch) (g : GE) (Lc : List Nat) (f : Nat → va_E) (a0 o : Nat) (fs : List Value) (ro : Nat → Int64) (x : Int32) (post : Int32 → PE → Prop) (ex : String → PE → Prop) (hc : Xi l yX6_laidAnew wsX6_laidAnew (rmH 4 1 6) g Lc f [.ref a0, .int x] post ex 1 6) (hE : ∀ E u, ex E u → E = "java/lang/IndexOutOfBoundsException") (hq0 : a0 ∈ Lc) (hf0 : f a0 = .inr (8, fs)) (ho : o ∉ Lc) (hfo : f o = .inl (g.2.1 4, 1, .inr (.inl ro))) : Ni l yL_laidAnew wsL_laidAnew (rmH 5 1 6) g (Lc ++ [o]) f [.ref a0, .int x, .ref o] (WrP g o post ex [("java/lang/IndexOutOfBoundsException", 1)]) 1 6 := by
  intro sz
  refine vx_ofWH (cc := cL_laidAnew) (maxL := 4) (ret := some .int) (hh := [(0, 9, 12, 21)]) (by decide) rfl ?_
  intro p e s m args below meth c s₁ B hml hv
  obtain ⟨rfl, hv⟩ := hv
  have hx := B.exec
  have hb := B.bytes
  have hr := B.returns
  have hts := atoms_spec (ws := wsL_laidAnew) B.pre
  have hown : s.vm.findClass RL = some m.cls := findClass_of_methodNamed B.named
  have hlocks := B.notSynchronized
  have htab := vx_table (x := yL_open) B (hts (.codeWith yL_laidAnew cL_laidAnew 4 (some .int) [(0, 9, 12, 21)]) List.mem_cons_self)
  obtain ⟨⟨rfl, hw, hs⟩, hn⟩ := pn_begin hv
  generalize va_A (va_pl (Lc ++ [o]) f) s.heap.size = A at hw hs ⊢
  have CF := (⟨hx, hb, hml, hown, hts⟩ : CallFix p m c cL_laidAnew 4 s _ wsL_laidAnew RL)
  have hl := lv_entry ([.ref a0, .int x, .ref o]) (n := 4) (Nat.le_of_ble_eq_true rfl)
  rw [lg_entry_eq]
  generalize (lg_sl ([.ref a0, .int x, .ref o]) ++ List.replicate (4 - (lg_sl ([.ref a0, .int x, .ref o])).length) Slot.unset).toArray = ls at hl ⊢
  have hl : lv_has ls 4 [(0, .ref a0), (1, .int x), (2, .ref o)] := hl
  have hnd := hw.nodup
  have hP : Pt (Lc ++ [o]) Lc [o] := ⟨fun b hb => List.mem_append_left _ hb, fun b hb => List.mem_append_right _ hb, (List.nodup_append.mp hnd).1, List.nodup_cons.mpr ⟨List.not_mem_nil, List.nodup_nil⟩, fun b hb h9 => ho (List.mem_singleton.mp h9 ▸ hb)⟩
  refine lv_aload_n hx hb dL_laidAnew_0 rfl (lv_at hl 2 rfl) ?_
  refine lv_iconst (v := 0) hx hb dL_laidAnew_1 (by decide) ?_
  refine lv_aload_n hx hb dL_laidAnew_2 rfl (lv_at hl 0 rfl) ?_
  refine lv_iload_n hx hb dL_laidAnew_3 rfl (lv_at hl 1 rfl) ?_
  refine pfx_ic hP hw (vx_runV (As := [.int x]) (rest := [.int 0, .ref o]) CF (hc _) (cwV 1 hts gL_laidAnew_X6_laidAnew rfl rfl rfl (by decide +kernel) ⟨Nat.le_of_ble_eq_true rfl, Nat.le_of_ble_eq_true rfl⟩) (pm_preV (hw.sub hP.1 hP.2.2.1) hs (pm_recv (hw.sub hP.1 hP.2.2.1) hq0 hf0 rfl)) rfl rfl hl.1 rfl (lv_room (Nat.le_of_ble_eq_true rfl)) dL_laidAnew_4 ⟨Nat.le_of_ble_eq_true rfl, Nat.le_of_ble_eq_true rfl⟩) (fun E ce q9 La f1 H1 locs1 he hd hw1 h1 h2 h3 => ?_) (fun r La f1 H locs hp hd hw => ?_)
  · obtain rfl := hE E _ he
    refine vx_catch hown [] ⟨0, 9, 12, 21⟩ [] (by rw [htab]; rfl) (fun z hz => absurd hz List.not_mem_nil) (by decide) (by decide) (hts (.classLink RL 21 "java/lang/IndexOutOfBoundsException") (by decide +kernel)) (va_Nw.use rfl (hs.2.2.2.1 ("java/lang/IndexOutOfBoundsException", "java/lang/IndexOutOfBoundsException") (by decide +kernel))) h1 h2 h3 ?_
    refine lv_astore_n (lv' := [(3, .ref q9), (0, .ref a0), (1, .int x), (2, .ref o)]) hx hb dL_laidAnew_12 rfl hl (by decide) rfl (fun ls hl => ?_)
    refine lv_iconst (v := 1) hx hb dL_laidAnew_13 (by decide) ?_
    exact vx_ret (pr_i (v := 1) hx hb hr hlocks hw1 rfl ⟨Nat.le_of_ble_eq_true rfl, Nat.le_of_ble_eq_true rfl⟩ (⟨La, f1, ro, fun h9 => hd o h9 (List.mem_singleton.mpr rfl), rfl, fun b hb => mix_n (fun e9 => hd b hb (e9 ▸ List.mem_singleton.mpr rfl)), mix_o.trans hfo, Or.inr ⟨_, he, by decide +kernel⟩⟩) dL_laidAnew_14)
  · refine lv_i2l (v := r.toInt64) hx hb dL_laidAnew_7 rfl ?_
    refine pm_last (n := 1) (r := ro) hx hb hw (List.mem_append_right _ (List.mem_singleton.mpr rfl)) (mix_o.trans hfo) (j := 0) rfl (by unfold vp_in; decide) dL_laidAnew_8 (fun H locs hw => ?_)
    refine lv_goto (tgt := 15) hx hb dL_laidAnew_9 (by decide) ?_
    refine lv_iconst (v := 0) hx hb dL_laidAnew_15 (by decide) ?_
    exact vx_ret (pr_i (v := 0) hx hb hr hlocks hw rfl ⟨Nat.le_of_ble_eq_true rfl, Nat.le_of_ble_eq_true rfl⟩ (⟨La, f1, _, fun h9 => hd o h9 (List.mem_singleton.mpr rfl), rfl, fun b hb => (fun (n9 : b ≠ o) => pu_n n9 (mix_n n9)) (fun e9 => hd b hb (e9 ▸ List.mem_singleton.mpr rfl)), pu_s, Or.inl ⟨rfl, r, hp, rfl⟩⟩) dL_laidAnew_16)

set_option maxHeartbeats 4000000 in
set_option maxRecDepth 100000 in
theorem w_value (l : Launch) (g : GE) (Lc : List Nat) (f : Nat → va_E) (a0 o : Nat) (fs : List Value) (ro : Nat → Int64) (x y z w : Int32) (post : Int32 → PE → Prop) (ex : String → PE → Prop) (hc : Xi l yX6_value wsX6_value (rmH 6 4 24) g Lc f [.ref a0, .int x, .int y, .int z, .int w] post ex 4 24) (hE : ∀ E u, ex E u → E = "java/lang/IndexOutOfBoundsException" ∨ E = "java/lang/IllegalArgumentException") (hq0 : a0 ∈ Lc) (hf0 : f a0 = .inr (8, fs)) (ho : o ∉ Lc) (hfo : f o = .inl (g.2.1 4, 1, .inr (.inl ro))) : Ni l yL_value wsL_value (rmH 7 4 24) g (Lc ++ [o]) f [.ref a0, .int x, .int y, .int z, .int w, .ref o] (WrP g o post ex [("java/lang/IndexOutOfBoundsException", 1), ("java/lang/IllegalArgumentException", 2)]) 4 24 := by
  intro sz
  refine vx_ofWH (cc := cL_value) (maxL := 7) (ret := some .int) (hh := [(0, 14, 17, 21), (0, 14, 21, 13)]) (by decide) rfl ?_
  intro p e s m args below meth c s₁ B hml hv
  obtain ⟨rfl, hv⟩ := hv
  have hx := B.exec
  have hb := B.bytes
  have hr := B.returns
  have hts := atoms_spec (ws := wsL_value) B.pre
  have hown : s.vm.findClass RL = some m.cls := findClass_of_methodNamed B.named
  have hlocks := B.notSynchronized
  have htab := vx_table (x := yL_open) B (hts (.codeWith yL_value cL_value 7 (some .int) [(0, 14, 17, 21), (0, 14, 21, 13)]) List.mem_cons_self)
  obtain ⟨⟨rfl, hw, hs⟩, hn⟩ := pn_begin hv
  generalize va_A (va_pl (Lc ++ [o]) f) s.heap.size = A at hw hs ⊢
  have CF := (⟨hx, hb, hml, hown, hts⟩ : CallFix p m c cL_value 7 s _ wsL_value RL)
  have hl := lv_entry ([.ref a0, .int x, .int y, .int z, .int w, .ref o]) (n := 7) (Nat.le_of_ble_eq_true rfl)
  rw [lg_entry_eq]
  generalize (lg_sl ([.ref a0, .int x, .int y, .int z, .int w, .ref o]) ++ List.replicate (7 - (lg_sl ([.ref a0, .int x, .int y, .int z, .int w, .ref o])).length) Slot.unset).toArray = ls at hl ⊢
  have hl : lv_has ls 7 [(0, .ref a0), (1, .int x), (2, .int y), (3, .int z), (4, .int w), (5, .ref o)] := hl
  have hnd := hw.nodup
  have hP : Pt (Lc ++ [o]) Lc [o] := ⟨fun b hb => List.mem_append_left _ hb, fun b hb => List.mem_append_right _ hb, (List.nodup_append.mp hnd).1, List.nodup_cons.mpr ⟨List.not_mem_nil, List.nodup_nil⟩, fun b hb h9 => ho (List.mem_singleton.mp h9 ▸ hb)⟩
  refine lv_aload hx hb dL_value_0 (lv_at hl 5 rfl) ?_
  refine lv_iconst (v := 0) hx hb dL_value_2 (by decide) ?_
  refine lv_aload_n hx hb dL_value_3 rfl (lv_at hl 0 rfl) ?_
  refine lv_iload_n hx hb dL_value_4 rfl (lv_at hl 1 rfl) ?_
  refine lv_iload_n hx hb dL_value_5 rfl (lv_at hl 2 rfl) ?_
  refine lv_iload_n hx hb dL_value_6 rfl (lv_at hl 3 rfl) ?_
  refine lv_iload hx hb dL_value_7 (lv_at hl 4 rfl) ?_
  refine pfx_ic hP hw (vx_runV (As := [.int x, .int y, .int z, .int w]) (rest := [.int 0, .ref o]) CF (hc _) (cwV 4 hts gL_value_X6_value rfl rfl rfl (by decide +kernel) ⟨Nat.le_of_ble_eq_true rfl, Nat.le_of_ble_eq_true rfl⟩) (pm_preV (hw.sub hP.1 hP.2.2.1) hs (pm_recv (hw.sub hP.1 hP.2.2.1) hq0 hf0 rfl)) rfl rfl hl.1 rfl (lv_room (Nat.le_of_ble_eq_true rfl)) dL_value_9 ⟨Nat.le_of_ble_eq_true rfl, Nat.le_of_ble_eq_true rfl⟩) (fun E ce q9 La f1 H1 locs1 he hd hw1 h1 h2 h3 => ?_) (fun r La f1 H locs hp hd hw => ?_)
  · rcases hE E _ he with rfl | rfl
    · refine vx_catch hown [] ⟨0, 14, 17, 21⟩ [⟨0, 14, 21, 13⟩] (by rw [htab]; rfl) (fun z hz => absurd hz List.not_mem_nil) (by decide) (by decide) (hts (.classLink RL 21 "java/lang/IndexOutOfBoundsException") (by decide +kernel)) (va_Nw.use rfl (hs.2.2.2.1 ("java/lang/IndexOutOfBoundsException", "java/lang/IndexOutOfBoundsException") (by decide +kernel))) h1 h2 h3 ?_
      refine lv_astore (lv' := [(6, .ref q9), (0, .ref a0), (1, .int x), (2, .int y), (3, .int z), (4, .int w), (5, .ref o)]) hx hb dL_value_17 hl (by decide) rfl (fun ls hl => ?_)
      refine lv_iconst (v := 1) hx hb dL_value_19 (by decide) ?_
      exact vx_ret (pr_i (v := 1) hx hb hr hlocks hw1 rfl ⟨Nat.le_of_ble_eq_true rfl, Nat.le_of_ble_eq_true rfl⟩ (⟨La, f1, ro, fun h9 => hd o h9 (List.mem_singleton.mpr rfl), rfl, fun b hb => mix_n (fun e9 => hd b hb (e9 ▸ List.mem_singleton.mpr rfl)), mix_o.trans hfo, Or.inr ⟨_, he, by decide +kernel⟩⟩) dL_value_20)
    · refine vx_catch hown [⟨0, 14, 17, 21⟩] ⟨0, 14, 21, 13⟩ [] (by rw [htab]; rfl) (fun z hz => by
          simp only [List.mem_cons, List.not_mem_nil, or_false] at hz
          subst hz
          exact Or.inr ⟨by decide, "java/lang/IndexOutOfBoundsException", hts (.classLink RL 21 "java/lang/IndexOutOfBoundsException") (by decide +kernel), hn ("java/lang/IllegalArgumentException", "java/lang/IndexOutOfBoundsException") (by decide +kernel)⟩) (by decide) (by decide) (hts (.classLink RL 13 "java/lang/IllegalArgumentException") (by decide +kernel)) (va_Nw.use rfl (hs.2.2.2.1 ("java/lang/IllegalArgumentException", "java/lang/IllegalArgumentException") (by decide +kernel))) h1 h2 h3 ?_
      refine lv_astore (lv' := [(6, .ref q9), (0, .ref a0), (1, .int x), (2, .int y), (3, .int z), (4, .int w), (5, .ref o)]) hx hb dL_value_21 hl (by decide) rfl (fun ls hl => ?_)
      refine lv_iconst (v := 2) hx hb dL_value_23 (by decide) ?_
      exact vx_ret (pr_i (v := 2) hx hb hr hlocks hw1 rfl ⟨Nat.le_of_ble_eq_true rfl, Nat.le_of_ble_eq_true rfl⟩ (⟨La, f1, ro, fun h9 => hd o h9 (List.mem_singleton.mpr rfl), rfl, fun b hb => mix_n (fun e9 => hd b hb (e9 ▸ List.mem_singleton.mpr rfl)), mix_o.trans hfo, Or.inr ⟨_, he, by decide +kernel⟩⟩) dL_value_24)
  · refine lv_i2l (v := r.toInt64) hx hb dL_value_12 rfl ?_
    refine pm_last (n := 1) (r := ro) hx hb hw (List.mem_append_right _ (List.mem_singleton.mpr rfl)) (mix_o.trans hfo) (j := 0) rfl (by unfold vp_in; decide) dL_value_13 (fun H locs hw => ?_)
    refine lv_goto (tgt := 25) hx hb dL_value_14 (by decide) ?_
    refine lv_iconst (v := 0) hx hb dL_value_25 (by decide) ?_
    exact vx_ret (pr_i (v := 0) hx hb hr hlocks hw rfl ⟨Nat.le_of_ble_eq_true rfl, Nat.le_of_ble_eq_true rfl⟩ (⟨La, f1, _, fun h9 => hd o h9 (List.mem_singleton.mpr rfl), rfl, fun b hb => (fun (n9 : b ≠ o) => pu_n n9 (mix_n n9)) (fun e9 => hd b hb (e9 ▸ List.mem_singleton.mpr rfl)), pu_s, Or.inl ⟨rfl, r, hp, rfl⟩⟩) dL_value_26)

set_option maxHeartbeats 4000000 in
set_option maxRecDepth 100000 in
theorem w_isCovered (l : Launch) (g : GE) (Lc : List Nat) (f : Nat → va_E) (a0 o : Nat) (fs : List Value) (ro : Nat → Int64) (x y z : Int32) (post : Int32 → PE → Prop) (ex : String → PE → Prop) (hc : Xi l yX6_isCovered wsX6_isCovered (rmH 6 3 18) g Lc f [.ref a0, .int x, .int y, .int z] post ex 3 18) (hE : ∀ E u, ex E u → E = "java/lang/IndexOutOfBoundsException" ∨ E = "java/lang/IllegalArgumentException") (h01 : ∀ v u, post v u → v = 0 ∨ v = 1) (hq0 : a0 ∈ Lc) (hf0 : f a0 = .inr (8, fs)) (ho : o ∉ Lc) (hfo : f o = .inl (g.2.1 4, 1, .inr (.inl ro))) : Ni l yL_isCovered wsL_isCovered (rmH 7 3 18) g (Lc ++ [o]) f [.ref a0, .int x, .int y, .int z, .ref o] (WrP g o post ex [("java/lang/IndexOutOfBoundsException", 1), ("java/lang/IllegalArgumentException", 2)]) 3 18 := by
  intro sz
  refine vx_ofWH (cc := cL_isCovered) (maxL := 6) (ret := some .int) (hh := [(0, 19, 22, 21), (0, 19, 26, 13)]) (by decide) rfl ?_
  intro p e s m args below meth c s₁ B hml hv
  obtain ⟨rfl, hv⟩ := hv
  have hx := B.exec
  have hb := B.bytes
  have hr := B.returns
  have hts := atoms_spec (ws := wsL_isCovered) B.pre
  have hown : s.vm.findClass RL = some m.cls := findClass_of_methodNamed B.named
  have hlocks := B.notSynchronized
  have htab := vx_table (x := yL_open) B (hts (.codeWith yL_isCovered cL_isCovered 6 (some .int) [(0, 19, 22, 21), (0, 19, 26, 13)]) List.mem_cons_self)
  obtain ⟨⟨rfl, hw, hs⟩, hn⟩ := pn_begin hv
  generalize va_A (va_pl (Lc ++ [o]) f) s.heap.size = A at hw hs ⊢
  have CF := (⟨hx, hb, hml, hown, hts⟩ : CallFix p m c cL_isCovered 6 s _ wsL_isCovered RL)
  have hl := lv_entry ([.ref a0, .int x, .int y, .int z, .ref o]) (n := 6) (Nat.le_of_ble_eq_true rfl)
  rw [lg_entry_eq]
  generalize (lg_sl ([.ref a0, .int x, .int y, .int z, .ref o]) ++ List.replicate (6 - (lg_sl ([.ref a0, .int x, .int y, .int z, .ref o])).length) Slot.unset).toArray = ls at hl ⊢
  have hl : lv_has ls 6 [(0, .ref a0), (1, .int x), (2, .int y), (3, .int z), (4, .ref o)] := hl
  have hnd := hw.nodup
  have hP : Pt (Lc ++ [o]) Lc [o] := ⟨fun b hb => List.mem_append_left _ hb, fun b hb => List.mem_append_right _ hb, (List.nodup_append.mp hnd).1, List.nodup_cons.mpr ⟨List.not_mem_nil, List.nodup_nil⟩, fun b hb h9 => ho (List.mem_singleton.mp h9 ▸ hb)⟩
  refine lv_aload hx hb dL_isCovered_0 (lv_at hl 4 rfl) ?_
  refine lv_iconst (v := 0) hx hb dL_isCovered_2 (by decide) ?_
  refine lv_aload_n hx hb dL_isCovered_3 rfl (lv_at hl 0 rfl) ?_
  refine lv_iload_n hx hb dL_isCovered_4 rfl (lv_at hl 1 rfl) ?_
  refine lv_iload_n hx hb dL_isCovered_5 rfl (lv_at hl 2 rfl) ?_
  refine lv_iload_n hx hb dL_isCovered_6 rfl (lv_at hl 3 rfl) ?_
  refine pfx_ic hP hw (vx_runV (As := [.int x, .int y, .int z]) (rest := [.int 0, .ref o]) CF (hc _) (cwV 3 hts gL_isCovered_X6_isCovered rfl rfl rfl (by decide +kernel) ⟨Nat.le_of_ble_eq_true rfl, Nat.le_of_ble_eq_true rfl⟩) (pm_preV (hw.sub hP.1 hP.2.2.1) hs (pm_recv (hw.sub hP.1 hP.2.2.1) hq0 hf0 rfl)) rfl rfl hl.1 rfl (lv_room (Nat.le_of_ble_eq_true rfl)) dL_isCovered_7 ⟨Nat.le_of_ble_eq_true rfl, Nat.le_of_ble_eq_true rfl⟩) (fun E ce q9 La f1 H1 locs1 he hd hw1 h1 h2 h3 => ?_) (fun r La f1 H locs hp hd hw => ?_)
  · rcases hE E _ he with rfl | rfl
    · refine vx_catch hown [] ⟨0, 19, 22, 21⟩ [⟨0, 19, 26, 13⟩] (by rw [htab]; rfl) (fun z hz => absurd hz List.not_mem_nil) (by decide) (by decide) (hts (.classLink RL 21 "java/lang/IndexOutOfBoundsException") (by decide +kernel)) (va_Nw.use rfl (hs.2.2.2.1 ("java/lang/IndexOutOfBoundsException", "java/lang/IndexOutOfBoundsException") (by decide +kernel))) h1 h2 h3 ?_
      refine lv_astore (lv' := [(5, .ref q9), (0, .ref a0), (1, .int x), (2, .int y), (3, .int z), (4, .ref o)]) hx hb dL_isCovered_22 hl (by decide) rfl (fun ls hl => ?_)
      refine lv_iconst (v := 1) hx hb dL_isCovered_24 (by decide) ?_
      exact vx_ret (pr_i (v := 1) hx hb hr hlocks hw1 rfl ⟨Nat.le_of_ble_eq_true rfl, Nat.le_of_ble_eq_true rfl⟩ (⟨La, f1, ro, fun h9 => hd o h9 (List.mem_singleton.mpr rfl), rfl, fun b hb => mix_n (fun e9 => hd b hb (e9 ▸ List.mem_singleton.mpr rfl)), mix_o.trans hfo, Or.inr ⟨_, he, by decide +kernel⟩⟩) dL_isCovered_25)
    · refine vx_catch hown [⟨0, 19, 22, 21⟩] ⟨0, 19, 26, 13⟩ [] (by rw [htab]; rfl) (fun z hz => by
          simp only [List.mem_cons, List.not_mem_nil, or_false] at hz
          subst hz
          exact Or.inr ⟨by decide, "java/lang/IndexOutOfBoundsException", hts (.classLink RL 21 "java/lang/IndexOutOfBoundsException") (by decide +kernel), hn ("java/lang/IllegalArgumentException", "java/lang/IndexOutOfBoundsException") (by decide +kernel)⟩) (by decide) (by decide) (hts (.classLink RL 13 "java/lang/IllegalArgumentException") (by decide +kernel)) (va_Nw.use rfl (hs.2.2.2.1 ("java/lang/IllegalArgumentException", "java/lang/IllegalArgumentException") (by decide +kernel))) h1 h2 h3 ?_
      refine lv_astore (lv' := [(5, .ref q9), (0, .ref a0), (1, .int x), (2, .int y), (3, .int z), (4, .ref o)]) hx hb dL_isCovered_26 hl (by decide) rfl (fun ls hl => ?_)
      refine lv_iconst (v := 2) hx hb dL_isCovered_28 (by decide) ?_
      exact vx_ret (pr_i (v := 2) hx hb hr hlocks hw1 rfl ⟨Nat.le_of_ble_eq_true rfl, Nat.le_of_ble_eq_true rfl⟩ (⟨La, f1, ro, fun h9 => hd o h9 (List.mem_singleton.mpr rfl), rfl, fun b hb => mix_n (fun e9 => hd b hb (e9 ▸ List.mem_singleton.mpr rfl)), mix_o.trans hfo, Or.inr ⟨_, he, by decide +kernel⟩⟩) dL_isCovered_29)
  · refine lv_if_eq (tgt := 17) hx hb dL_isCovered_10 (by decide) (fun c_10 => ?_) (fun c_10 => ?_)
    · refine lv_lconst (v := 0) hx hb dL_isCovered_17 rfl ?_
      refine pm_last (n := 1) (r := ro) hx hb hw (List.mem_append_right _ (List.mem_singleton.mpr rfl)) (mix_o.trans hfo) (j := 0) rfl (by unfold vp_in; decide) dL_isCovered_18 (fun H locs hw => ?_)
      refine lv_goto (tgt := 30) hx hb dL_isCovered_19 (by decide) ?_
      refine lv_iconst (v := 0) hx hb dL_isCovered_30 (by decide) ?_
      exact vx_ret (pr_i (v := 0) hx hb hr hlocks hw rfl ⟨Nat.le_of_ble_eq_true rfl, Nat.le_of_ble_eq_true rfl⟩ (⟨La, f1, _, fun h9 => hd o h9 (List.mem_singleton.mpr rfl), rfl, fun b hb => (fun (n9 : b ≠ o) => pu_n n9 (mix_n n9)) (fun e9 => hd b hb (e9 ▸ List.mem_singleton.mpr rfl)), pu_s, Or.inl ⟨rfl, r, hp, by rw [show r = 0 from c_10]; rfl⟩⟩) dL_isCovered_31)
    · refine lv_lconst (v := 1) hx hb dL_isCovered_13 rfl ?_
      refine lv_goto (tgt := 18) hx hb dL_isCovered_14 (by decide) ?_
      refine pm_last (n := 1) (r := ro) hx hb hw (List.mem_append_right _ (List.mem_singleton.mpr rfl)) (mix_o.trans hfo) (j := 0) rfl (by unfold vp_in; decide) dL_isCovered_18 (fun H locs hw => ?_)
      refine lv_goto (tgt := 30) hx hb dL_isCovered_19 (by decide) ?_
      refine lv_iconst (v := 0) hx hb dL_isCovered_30 (by decide) ?_
      exact vx_ret (pr_i (v := 0) hx hb hr hlocks hw rfl ⟨Nat.le_of_ble_eq_true rfl, Nat.le_of_ble_eq_true rfl⟩ (⟨La, f1, _, fun h9 => hd o h9 (List.mem_singleton.mpr rfl), rfl, fun b hb => (fun (n9 : b ≠ o) => pu_n n9 (mix_n n9)) (fun e9 => hd b hb (e9 ▸ List.mem_singleton.mpr rfl)), pu_s, Or.inl ⟨rfl, r, hp, by rw [(h01 r _ hp).resolve_left c_10]; rfl⟩⟩) dL_isCovered_31)

set_option maxHeartbeats 4000000 in
set_option maxRecDepth 100000 in
theorem w_rate (l : Launch) (g : GE) (Lc : List Nat) (f : Nat → va_E) (a0 o : Nat) (fs : List Value) (ro : Nat → Int64) (x y z : Int32) (post : Int32 → PE → Prop) (ex : String → PE → Prop) (hc : Xi l yX6_rate wsX6_rate (rmH 6 3 18) g Lc f [.ref a0, .int x, .int y, .int z] post ex 3 18) (hE : ∀ E u, ex E u → E = "java/lang/IndexOutOfBoundsException" ∨ E = "java/lang/IllegalArgumentException") (hq0 : a0 ∈ Lc) (hf0 : f a0 = .inr (8, fs)) (ho : o ∉ Lc) (hfo : f o = .inl (g.2.1 4, 1, .inr (.inl ro))) : Ni l yL_rate wsL_rate (rmH 7 3 18) g (Lc ++ [o]) f [.ref a0, .int x, .int y, .int z, .ref o] (WrP g o post ex [("java/lang/IndexOutOfBoundsException", 1), ("java/lang/IllegalArgumentException", 2)]) 3 18 := by
  intro sz
  refine vx_ofWH (cc := cL_rate) (maxL := 6) (ret := some .int) (hh := [(0, 12, 15, 21), (0, 12, 19, 13)]) (by decide) rfl ?_
  intro p e s m args below meth c s₁ B hml hv
  obtain ⟨rfl, hv⟩ := hv
  have hx := B.exec
  have hb := B.bytes
  have hr := B.returns
  have hts := atoms_spec (ws := wsL_rate) B.pre
  have hown : s.vm.findClass RL = some m.cls := findClass_of_methodNamed B.named
  have hlocks := B.notSynchronized
  have htab := vx_table (x := yL_open) B (hts (.codeWith yL_rate cL_rate 6 (some .int) [(0, 12, 15, 21), (0, 12, 19, 13)]) List.mem_cons_self)
  obtain ⟨⟨rfl, hw, hs⟩, hn⟩ := pn_begin hv
  generalize va_A (va_pl (Lc ++ [o]) f) s.heap.size = A at hw hs ⊢
  have CF := (⟨hx, hb, hml, hown, hts⟩ : CallFix p m c cL_rate 6 s _ wsL_rate RL)
  have hl := lv_entry ([.ref a0, .int x, .int y, .int z, .ref o]) (n := 6) (Nat.le_of_ble_eq_true rfl)
  rw [lg_entry_eq]
  generalize (lg_sl ([.ref a0, .int x, .int y, .int z, .ref o]) ++ List.replicate (6 - (lg_sl ([.ref a0, .int x, .int y, .int z, .ref o])).length) Slot.unset).toArray = ls at hl ⊢
  have hl : lv_has ls 6 [(0, .ref a0), (1, .int x), (2, .int y), (3, .int z), (4, .ref o)] := hl
  have hnd := hw.nodup
  have hP : Pt (Lc ++ [o]) Lc [o] := ⟨fun b hb => List.mem_append_left _ hb, fun b hb => List.mem_append_right _ hb, (List.nodup_append.mp hnd).1, List.nodup_cons.mpr ⟨List.not_mem_nil, List.nodup_nil⟩, fun b hb h9 => ho (List.mem_singleton.mp h9 ▸ hb)⟩
  refine lv_aload hx hb dL_rate_0 (lv_at hl 4 rfl) ?_
  refine lv_iconst (v := 0) hx hb dL_rate_2 (by decide) ?_
  refine lv_aload_n hx hb dL_rate_3 rfl (lv_at hl 0 rfl) ?_
  refine lv_iload_n hx hb dL_rate_4 rfl (lv_at hl 1 rfl) ?_
  refine lv_iload_n hx hb dL_rate_5 rfl (lv_at hl 2 rfl) ?_
  refine lv_iload_n hx hb dL_rate_6 rfl (lv_at hl 3 rfl) ?_
  refine pfx_ic hP hw (vx_runV (As := [.int x, .int y, .int z]) (rest := [.int 0, .ref o]) CF (hc _) (cwV 3 hts gL_rate_X6_rate rfl rfl rfl (by decide +kernel) ⟨Nat.le_of_ble_eq_true rfl, Nat.le_of_ble_eq_true rfl⟩) (pm_preV (hw.sub hP.1 hP.2.2.1) hs (pm_recv (hw.sub hP.1 hP.2.2.1) hq0 hf0 rfl)) rfl rfl hl.1 rfl (lv_room (Nat.le_of_ble_eq_true rfl)) dL_rate_7 ⟨Nat.le_of_ble_eq_true rfl, Nat.le_of_ble_eq_true rfl⟩) (fun E ce q9 La f1 H1 locs1 he hd hw1 h1 h2 h3 => ?_) (fun r La f1 H locs hp hd hw => ?_)
  · rcases hE E _ he with rfl | rfl
    · refine vx_catch hown [] ⟨0, 12, 15, 21⟩ [⟨0, 12, 19, 13⟩] (by rw [htab]; rfl) (fun z hz => absurd hz List.not_mem_nil) (by decide) (by decide) (hts (.classLink RL 21 "java/lang/IndexOutOfBoundsException") (by decide +kernel)) (va_Nw.use rfl (hs.2.2.2.1 ("java/lang/IndexOutOfBoundsException", "java/lang/IndexOutOfBoundsException") (by decide +kernel))) h1 h2 h3 ?_
      refine lv_astore (lv' := [(5, .ref q9), (0, .ref a0), (1, .int x), (2, .int y), (3, .int z), (4, .ref o)]) hx hb dL_rate_15 hl (by decide) rfl (fun ls hl => ?_)
      refine lv_iconst (v := 1) hx hb dL_rate_17 (by decide) ?_
      exact vx_ret (pr_i (v := 1) hx hb hr hlocks hw1 rfl ⟨Nat.le_of_ble_eq_true rfl, Nat.le_of_ble_eq_true rfl⟩ (⟨La, f1, ro, fun h9 => hd o h9 (List.mem_singleton.mpr rfl), rfl, fun b hb => mix_n (fun e9 => hd b hb (e9 ▸ List.mem_singleton.mpr rfl)), mix_o.trans hfo, Or.inr ⟨_, he, by decide +kernel⟩⟩) dL_rate_18)
    · refine vx_catch hown [⟨0, 12, 15, 21⟩] ⟨0, 12, 19, 13⟩ [] (by rw [htab]; rfl) (fun z hz => by
          simp only [List.mem_cons, List.not_mem_nil, or_false] at hz
          subst hz
          exact Or.inr ⟨by decide, "java/lang/IndexOutOfBoundsException", hts (.classLink RL 21 "java/lang/IndexOutOfBoundsException") (by decide +kernel), hn ("java/lang/IllegalArgumentException", "java/lang/IndexOutOfBoundsException") (by decide +kernel)⟩) (by decide) (by decide) (hts (.classLink RL 13 "java/lang/IllegalArgumentException") (by decide +kernel)) (va_Nw.use rfl (hs.2.2.2.1 ("java/lang/IllegalArgumentException", "java/lang/IllegalArgumentException") (by decide +kernel))) h1 h2 h3 ?_
      refine lv_astore (lv' := [(5, .ref q9), (0, .ref a0), (1, .int x), (2, .int y), (3, .int z), (4, .ref o)]) hx hb dL_rate_19 hl (by decide) rfl (fun ls hl => ?_)
      refine lv_iconst (v := 2) hx hb dL_rate_21 (by decide) ?_
      exact vx_ret (pr_i (v := 2) hx hb hr hlocks hw1 rfl ⟨Nat.le_of_ble_eq_true rfl, Nat.le_of_ble_eq_true rfl⟩ (⟨La, f1, ro, fun h9 => hd o h9 (List.mem_singleton.mpr rfl), rfl, fun b hb => mix_n (fun e9 => hd b hb (e9 ▸ List.mem_singleton.mpr rfl)), mix_o.trans hfo, Or.inr ⟨_, he, by decide +kernel⟩⟩) dL_rate_22)
  · refine lv_i2l (v := r.toInt64) hx hb dL_rate_10 rfl ?_
    refine pm_last (n := 1) (r := ro) hx hb hw (List.mem_append_right _ (List.mem_singleton.mpr rfl)) (mix_o.trans hfo) (j := 0) rfl (by unfold vp_in; decide) dL_rate_11 (fun H locs hw => ?_)
    refine lv_goto (tgt := 23) hx hb dL_rate_12 (by decide) ?_
    refine lv_iconst (v := 0) hx hb dL_rate_23 (by decide) ?_
    exact vx_ret (pr_i (v := 0) hx hb hr hlocks hw rfl ⟨Nat.le_of_ble_eq_true rfl, Nat.le_of_ble_eq_true rfl⟩ (⟨La, f1, _, fun h9 => hd o h9 (List.mem_singleton.mpr rfl), rfl, fun b hb => (fun (n9 : b ≠ o) => pu_n n9 (mix_n n9)) (fun e9 => hd b hb (e9 ▸ List.mem_singleton.mpr rfl)), pu_s, Or.inl ⟨rfl, r, hp, rfl⟩⟩) dL_rate_24)

set_option maxHeartbeats 4000000 in
set_option maxRecDepth 100000 in
theorem w_segments (l : Launch) (g : GE) (Lc : List Nat) (f : Nat → va_E) (a0 o : Nat) (fs : List Value) (ro : Nat → Int64) (x y : Int32) (post : Int32 → PE → Prop) (ex : String → PE → Prop) (hc : Xi l yX6_segments wsX6_segments (rmH 6 2 12) g Lc f [.ref a0, .int x, .int y] post ex 2 12) (hE : ∀ E u, ex E u → E = "java/lang/IndexOutOfBoundsException" ∨ E = "java/lang/IllegalArgumentException") (hq0 : a0 ∈ Lc) (hf0 : f a0 = .inr (8, fs)) (ho : o ∉ Lc) (hfo : f o = .inl (g.2.1 4, 1, .inr (.inl ro))) : Ni l yL_segments wsL_segments (rmH 7 2 12) g (Lc ++ [o]) f [.ref a0, .int x, .int y, .ref o] (WrP g o post ex [("java/lang/IndexOutOfBoundsException", 1), ("java/lang/IllegalArgumentException", 2)]) 2 12 := by
  intro sz
  refine vx_ofWH (cc := cL_segments) (maxL := 5) (ret := some .int) (hh := [(0, 10, 13, 21), (0, 10, 17, 13)]) (by decide) rfl ?_
  intro p e s m args below meth c s₁ B hml hv
  obtain ⟨rfl, hv⟩ := hv
  have hx := B.exec
  have hb := B.bytes
  have hr := B.returns
  have hts := atoms_spec (ws := wsL_segments) B.pre
  have hown : s.vm.findClass RL = some m.cls := findClass_of_methodNamed B.named
  have hlocks := B.notSynchronized
  have htab := vx_table (x := yL_open) B (hts (.codeWith yL_segments cL_segments 5 (some .int) [(0, 10, 13, 21), (0, 10, 17, 13)]) List.mem_cons_self)
  obtain ⟨⟨rfl, hw, hs⟩, hn⟩ := pn_begin hv
  generalize va_A (va_pl (Lc ++ [o]) f) s.heap.size = A at hw hs ⊢
  have CF := (⟨hx, hb, hml, hown, hts⟩ : CallFix p m c cL_segments 5 s _ wsL_segments RL)
  have hl := lv_entry ([.ref a0, .int x, .int y, .ref o]) (n := 5) (Nat.le_of_ble_eq_true rfl)
  rw [lg_entry_eq]
  generalize (lg_sl ([.ref a0, .int x, .int y, .ref o]) ++ List.replicate (5 - (lg_sl ([.ref a0, .int x, .int y, .ref o])).length) Slot.unset).toArray = ls at hl ⊢
  have hl : lv_has ls 5 [(0, .ref a0), (1, .int x), (2, .int y), (3, .ref o)] := hl
  have hnd := hw.nodup
  have hP : Pt (Lc ++ [o]) Lc [o] := ⟨fun b hb => List.mem_append_left _ hb, fun b hb => List.mem_append_right _ hb, (List.nodup_append.mp hnd).1, List.nodup_cons.mpr ⟨List.not_mem_nil, List.nodup_nil⟩, fun b hb h9 => ho (List.mem_singleton.mp h9 ▸ hb)⟩
  refine lv_aload_n hx hb dL_segments_0 rfl (lv_at hl 3 rfl) ?_
  refine lv_iconst (v := 0) hx hb dL_segments_1 (by decide) ?_
  refine lv_aload_n hx hb dL_segments_2 rfl (lv_at hl 0 rfl) ?_
  refine lv_iload_n hx hb dL_segments_3 rfl (lv_at hl 1 rfl) ?_
  refine lv_iload_n hx hb dL_segments_4 rfl (lv_at hl 2 rfl) ?_
  refine pfx_ic hP hw (vx_runV (As := [.int x, .int y]) (rest := [.int 0, .ref o]) CF (hc _) (cwV 2 hts gL_segments_X6_segments rfl rfl rfl (by decide +kernel) ⟨Nat.le_of_ble_eq_true rfl, Nat.le_of_ble_eq_true rfl⟩) (pm_preV (hw.sub hP.1 hP.2.2.1) hs (pm_recv (hw.sub hP.1 hP.2.2.1) hq0 hf0 rfl)) rfl rfl hl.1 rfl (lv_room (Nat.le_of_ble_eq_true rfl)) dL_segments_5 ⟨Nat.le_of_ble_eq_true rfl, Nat.le_of_ble_eq_true rfl⟩) (fun E ce q9 La f1 H1 locs1 he hd hw1 h1 h2 h3 => ?_) (fun r La f1 H locs hp hd hw => ?_)
  · rcases hE E _ he with rfl | rfl
    · refine vx_catch hown [] ⟨0, 10, 13, 21⟩ [⟨0, 10, 17, 13⟩] (by rw [htab]; rfl) (fun z hz => absurd hz List.not_mem_nil) (by decide) (by decide) (hts (.classLink RL 21 "java/lang/IndexOutOfBoundsException") (by decide +kernel)) (va_Nw.use rfl (hs.2.2.2.1 ("java/lang/IndexOutOfBoundsException", "java/lang/IndexOutOfBoundsException") (by decide +kernel))) h1 h2 h3 ?_
      refine lv_astore (lv' := [(4, .ref q9), (0, .ref a0), (1, .int x), (2, .int y), (3, .ref o)]) hx hb dL_segments_13 hl (by decide) rfl (fun ls hl => ?_)
      refine lv_iconst (v := 1) hx hb dL_segments_15 (by decide) ?_
      exact vx_ret (pr_i (v := 1) hx hb hr hlocks hw1 rfl ⟨Nat.le_of_ble_eq_true rfl, Nat.le_of_ble_eq_true rfl⟩ (⟨La, f1, ro, fun h9 => hd o h9 (List.mem_singleton.mpr rfl), rfl, fun b hb => mix_n (fun e9 => hd b hb (e9 ▸ List.mem_singleton.mpr rfl)), mix_o.trans hfo, Or.inr ⟨_, he, by decide +kernel⟩⟩) dL_segments_16)
    · refine vx_catch hown [⟨0, 10, 13, 21⟩] ⟨0, 10, 17, 13⟩ [] (by rw [htab]; rfl) (fun z hz => by
          simp only [List.mem_cons, List.not_mem_nil, or_false] at hz
          subst hz
          exact Or.inr ⟨by decide, "java/lang/IndexOutOfBoundsException", hts (.classLink RL 21 "java/lang/IndexOutOfBoundsException") (by decide +kernel), hn ("java/lang/IllegalArgumentException", "java/lang/IndexOutOfBoundsException") (by decide +kernel)⟩) (by decide) (by decide) (hts (.classLink RL 13 "java/lang/IllegalArgumentException") (by decide +kernel)) (va_Nw.use rfl (hs.2.2.2.1 ("java/lang/IllegalArgumentException", "java/lang/IllegalArgumentException") (by decide +kernel))) h1 h2 h3 ?_
      refine lv_astore (lv' := [(4, .ref q9), (0, .ref a0), (1, .int x), (2, .int y), (3, .ref o)]) hx hb dL_segments_17 hl (by decide) rfl (fun ls hl => ?_)
      refine lv_iconst (v := 2) hx hb dL_segments_19 (by decide) ?_
      exact vx_ret (pr_i (v := 2) hx hb hr hlocks hw1 rfl ⟨Nat.le_of_ble_eq_true rfl, Nat.le_of_ble_eq_true rfl⟩ (⟨La, f1, ro, fun h9 => hd o h9 (List.mem_singleton.mpr rfl), rfl, fun b hb => mix_n (fun e9 => hd b hb (e9 ▸ List.mem_singleton.mpr rfl)), mix_o.trans hfo, Or.inr ⟨_, he, by decide +kernel⟩⟩) dL_segments_20)
  · refine lv_i2l (v := r.toInt64) hx hb dL_segments_8 rfl ?_
    refine pm_last (n := 1) (r := ro) hx hb hw (List.mem_append_right _ (List.mem_singleton.mpr rfl)) (mix_o.trans hfo) (j := 0) rfl (by unfold vp_in; decide) dL_segments_9 (fun H locs hw => ?_)
    refine lv_goto (tgt := 21) hx hb dL_segments_10 (by decide) ?_
    refine lv_iconst (v := 0) hx hb dL_segments_21 (by decide) ?_
    exact vx_ret (pr_i (v := 0) hx hb hr hlocks hw rfl ⟨Nat.le_of_ble_eq_true rfl, Nat.le_of_ble_eq_true rfl⟩ (⟨La, f1, _, fun h9 => hd o h9 (List.mem_singleton.mpr rfl), rfl, fun b hb => (fun (n9 : b ≠ o) => pu_n n9 (mix_n n9)) (fun e9 => hd b hb (e9 ▸ List.mem_singleton.mpr rfl)), pu_s, Or.inl ⟨rfl, r, hp, rfl⟩⟩) dL_segments_22)

set_option maxHeartbeats 4000000 in
set_option maxRecDepth 100000 in
theorem w_segmentStart (l : Launch) (g : GE) (Lc : List Nat) (f : Nat → va_E) (a0 o : Nat) (fs : List Value) (ro : Nat → Int64) (x y z : Int32) (post : Int32 → PE → Prop) (ex : String → PE → Prop) (hc : Xi l yX6_segmentStart wsX6_segmentStart (rmH 7 3 18) g Lc f [.ref a0, .int x, .int y, .int z] post ex 3 18) (hE : ∀ E u, ex E u → E = "java/lang/IllegalArgumentException" ∨ E = "java/lang/IndexOutOfBoundsException") (hq0 : a0 ∈ Lc) (hf0 : f a0 = .inr (8, fs)) (ho : o ∉ Lc) (hfo : f o = .inl (g.2.1 4, 1, .inr (.inl ro))) : Ni l yL_segmentStart wsL_segmentStart (rmH 8 3 18) g (Lc ++ [o]) f [.ref a0, .int x, .int y, .int z, .ref o] (WrP g o post ex [("java/lang/IllegalArgumentException", 1), ("java/lang/IndexOutOfBoundsException", 2)]) 3 18 := by
  intro sz
  refine vx_ofWH (cc := cL_segmentStart) (maxL := 6) (ret := some .int) (hh := [(0, 12, 15, 13), (0, 12, 19, 21)]) (by decide) rfl ?_
  intro p e s m args below meth c s₁ B hml hv
  obtain ⟨rfl, hv⟩ := hv
  have hx := B.exec
  have hb := B.bytes
  have hr := B.returns
  have hts := atoms_spec (ws := wsL_segmentStart) B.pre
  have hown : s.vm.findClass RL = some m.cls := findClass_of_methodNamed B.named
  have hlocks := B.notSynchronized
  have htab := vx_table (x := yL_open) B (hts (.codeWith yL_segmentStart cL_segmentStart 6 (some .int) [(0, 12, 15, 13), (0, 12, 19, 21)]) List.mem_cons_self)
  obtain ⟨⟨rfl, hw, hs⟩, hn⟩ := pn_begin hv
  generalize va_A (va_pl (Lc ++ [o]) f) s.heap.size = A at hw hs ⊢
  have CF := (⟨hx, hb, hml, hown, hts⟩ : CallFix p m c cL_segmentStart 6 s _ wsL_segmentStart RL)
  have hl := lv_entry ([.ref a0, .int x, .int y, .int z, .ref o]) (n := 6) (Nat.le_of_ble_eq_true rfl)
  rw [lg_entry_eq]
  generalize (lg_sl ([.ref a0, .int x, .int y, .int z, .ref o]) ++ List.replicate (6 - (lg_sl ([.ref a0, .int x, .int y, .int z, .ref o])).length) Slot.unset).toArray = ls at hl ⊢
  have hl : lv_has ls 6 [(0, .ref a0), (1, .int x), (2, .int y), (3, .int z), (4, .ref o)] := hl
  have hnd := hw.nodup
  have hP : Pt (Lc ++ [o]) Lc [o] := ⟨fun b hb => List.mem_append_left _ hb, fun b hb => List.mem_append_right _ hb, (List.nodup_append.mp hnd).1, List.nodup_cons.mpr ⟨List.not_mem_nil, List.nodup_nil⟩, fun b hb h9 => ho (List.mem_singleton.mp h9 ▸ hb)⟩
  refine lv_aload hx hb dL_segmentStart_0 (lv_at hl 4 rfl) ?_
  refine lv_iconst (v := 0) hx hb dL_segmentStart_2 (by decide) ?_
  refine lv_aload_n hx hb dL_segmentStart_3 rfl (lv_at hl 0 rfl) ?_
  refine lv_iload_n hx hb dL_segmentStart_4 rfl (lv_at hl 1 rfl) ?_
  refine lv_iload_n hx hb dL_segmentStart_5 rfl (lv_at hl 2 rfl) ?_
  refine lv_iload_n hx hb dL_segmentStart_6 rfl (lv_at hl 3 rfl) ?_
  refine pfx_ic hP hw (vx_runV (As := [.int x, .int y, .int z]) (rest := [.int 0, .ref o]) CF (hc _) (cwV 3 hts gL_segmentStart_X6_segmentStart rfl rfl rfl (by decide +kernel) ⟨Nat.le_of_ble_eq_true rfl, Nat.le_of_ble_eq_true rfl⟩) (pm_preV (hw.sub hP.1 hP.2.2.1) hs (pm_recv (hw.sub hP.1 hP.2.2.1) hq0 hf0 rfl)) rfl rfl hl.1 rfl (lv_room (Nat.le_of_ble_eq_true rfl)) dL_segmentStart_7 ⟨Nat.le_of_ble_eq_true rfl, Nat.le_of_ble_eq_true rfl⟩) (fun E ce q9 La f1 H1 locs1 he hd hw1 h1 h2 h3 => ?_) (fun r La f1 H locs hp hd hw => ?_)
  · rcases hE E _ he with rfl | rfl
    · refine vx_catch hown [] ⟨0, 12, 15, 13⟩ [⟨0, 12, 19, 21⟩] (by rw [htab]; rfl) (fun z hz => absurd hz List.not_mem_nil) (by decide) (by decide) (hts (.classLink RL 13 "java/lang/IllegalArgumentException") (by decide +kernel)) (va_Nw.use rfl (hs.2.2.2.1 ("java/lang/IllegalArgumentException", "java/lang/IllegalArgumentException") (by decide +kernel))) h1 h2 h3 ?_
      refine lv_astore (lv' := [(5, .ref q9), (0, .ref a0), (1, .int x), (2, .int y), (3, .int z), (4, .ref o)]) hx hb dL_segmentStart_15 hl (by decide) rfl (fun ls hl => ?_)
      refine lv_iconst (v := 1) hx hb dL_segmentStart_17 (by decide) ?_
      exact vx_ret (pr_i (v := 1) hx hb hr hlocks hw1 rfl ⟨Nat.le_of_ble_eq_true rfl, Nat.le_of_ble_eq_true rfl⟩ (⟨La, f1, ro, fun h9 => hd o h9 (List.mem_singleton.mpr rfl), rfl, fun b hb => mix_n (fun e9 => hd b hb (e9 ▸ List.mem_singleton.mpr rfl)), mix_o.trans hfo, Or.inr ⟨_, he, by decide +kernel⟩⟩) dL_segmentStart_18)
    · refine vx_catch hown [⟨0, 12, 15, 13⟩] ⟨0, 12, 19, 21⟩ [] (by rw [htab]; rfl) (fun z hz => by
          simp only [List.mem_cons, List.not_mem_nil, or_false] at hz
          subst hz
          exact Or.inr ⟨by decide, "java/lang/IllegalArgumentException", hts (.classLink RL 13 "java/lang/IllegalArgumentException") (by decide +kernel), hn ("java/lang/IndexOutOfBoundsException", "java/lang/IllegalArgumentException") (by decide +kernel)⟩) (by decide) (by decide) (hts (.classLink RL 21 "java/lang/IndexOutOfBoundsException") (by decide +kernel)) (va_Nw.use rfl (hs.2.2.2.1 ("java/lang/IndexOutOfBoundsException", "java/lang/IndexOutOfBoundsException") (by decide +kernel))) h1 h2 h3 ?_
      refine lv_astore (lv' := [(5, .ref q9), (0, .ref a0), (1, .int x), (2, .int y), (3, .int z), (4, .ref o)]) hx hb dL_segmentStart_19 hl (by decide) rfl (fun ls hl => ?_)
      refine lv_iconst (v := 2) hx hb dL_segmentStart_21 (by decide) ?_
      exact vx_ret (pr_i (v := 2) hx hb hr hlocks hw1 rfl ⟨Nat.le_of_ble_eq_true rfl, Nat.le_of_ble_eq_true rfl⟩ (⟨La, f1, ro, fun h9 => hd o h9 (List.mem_singleton.mpr rfl), rfl, fun b hb => mix_n (fun e9 => hd b hb (e9 ▸ List.mem_singleton.mpr rfl)), mix_o.trans hfo, Or.inr ⟨_, he, by decide +kernel⟩⟩) dL_segmentStart_22)
  · refine lv_i2l (v := r.toInt64) hx hb dL_segmentStart_10 rfl ?_
    refine pm_last (n := 1) (r := ro) hx hb hw (List.mem_append_right _ (List.mem_singleton.mpr rfl)) (mix_o.trans hfo) (j := 0) rfl (by unfold vp_in; decide) dL_segmentStart_11 (fun H locs hw => ?_)
    refine lv_goto (tgt := 23) hx hb dL_segmentStart_12 (by decide) ?_
    refine lv_iconst (v := 0) hx hb dL_segmentStart_23 (by decide) ?_
    exact vx_ret (pr_i (v := 0) hx hb hr hlocks hw rfl ⟨Nat.le_of_ble_eq_true rfl, Nat.le_of_ble_eq_true rfl⟩ (⟨La, f1, _, fun h9 => hd o h9 (List.mem_singleton.mpr rfl), rfl, fun b hb => (fun (n9 : b ≠ o) => pu_n n9 (mix_n n9)) (fun e9 => hd b hb (e9 ▸ List.mem_singleton.mpr rfl)), pu_s, Or.inl ⟨rfl, r, hp, rfl⟩⟩) dL_segmentStart_24)

set_option maxHeartbeats 4000000 in
set_option maxRecDepth 100000 in
theorem w_segmentPremium (l : Launch) (g : GE) (Lc : List Nat) (f : Nat → va_E) (a0 o : Nat) (fs : List Value) (ro : Nat → Int64) (x y z : Int32) (post : Int32 → PE → Prop) (ex : String → PE → Prop) (hc : Xi l yX6_segmentPremium wsX6_segmentPremium (rmH 7 3 18) g Lc f [.ref a0, .int x, .int y, .int z] post ex 3 18) (hE : ∀ E u, ex E u → E = "java/lang/IllegalArgumentException" ∨ E = "java/lang/IndexOutOfBoundsException") (hq0 : a0 ∈ Lc) (hf0 : f a0 = .inr (8, fs)) (ho : o ∉ Lc) (hfo : f o = .inl (g.2.1 4, 1, .inr (.inl ro))) : Ni l yL_segmentPremium wsL_segmentPremium (rmH 8 3 18) g (Lc ++ [o]) f [.ref a0, .int x, .int y, .int z, .ref o] (WrP g o post ex [("java/lang/IllegalArgumentException", 1), ("java/lang/IndexOutOfBoundsException", 2)]) 3 18 := by
  intro sz
  refine vx_ofWH (cc := cL_segmentPremium) (maxL := 6) (ret := some .int) (hh := [(0, 12, 15, 13), (0, 12, 19, 21)]) (by decide) rfl ?_
  intro p e s m args below meth c s₁ B hml hv
  obtain ⟨rfl, hv⟩ := hv
  have hx := B.exec
  have hb := B.bytes
  have hr := B.returns
  have hts := atoms_spec (ws := wsL_segmentPremium) B.pre
  have hown : s.vm.findClass RL = some m.cls := findClass_of_methodNamed B.named
  have hlocks := B.notSynchronized
  have htab := vx_table (x := yL_open) B (hts (.codeWith yL_segmentPremium cL_segmentPremium 6 (some .int) [(0, 12, 15, 13), (0, 12, 19, 21)]) List.mem_cons_self)
  obtain ⟨⟨rfl, hw, hs⟩, hn⟩ := pn_begin hv
  generalize va_A (va_pl (Lc ++ [o]) f) s.heap.size = A at hw hs ⊢
  have CF := (⟨hx, hb, hml, hown, hts⟩ : CallFix p m c cL_segmentPremium 6 s _ wsL_segmentPremium RL)
  have hl := lv_entry ([.ref a0, .int x, .int y, .int z, .ref o]) (n := 6) (Nat.le_of_ble_eq_true rfl)
  rw [lg_entry_eq]
  generalize (lg_sl ([.ref a0, .int x, .int y, .int z, .ref o]) ++ List.replicate (6 - (lg_sl ([.ref a0, .int x, .int y, .int z, .ref o])).length) Slot.unset).toArray = ls at hl ⊢
  have hl : lv_has ls 6 [(0, .ref a0), (1, .int x), (2, .int y), (3, .int z), (4, .ref o)] := hl
  have hnd := hw.nodup
  have hP : Pt (Lc ++ [o]) Lc [o] := ⟨fun b hb => List.mem_append_left _ hb, fun b hb => List.mem_append_right _ hb, (List.nodup_append.mp hnd).1, List.nodup_cons.mpr ⟨List.not_mem_nil, List.nodup_nil⟩, fun b hb h9 => ho (List.mem_singleton.mp h9 ▸ hb)⟩
  refine lv_aload hx hb dL_segmentPremium_0 (lv_at hl 4 rfl) ?_
  refine lv_iconst (v := 0) hx hb dL_segmentPremium_2 (by decide) ?_
  refine lv_aload_n hx hb dL_segmentPremium_3 rfl (lv_at hl 0 rfl) ?_
  refine lv_iload_n hx hb dL_segmentPremium_4 rfl (lv_at hl 1 rfl) ?_
  refine lv_iload_n hx hb dL_segmentPremium_5 rfl (lv_at hl 2 rfl) ?_
  refine lv_iload_n hx hb dL_segmentPremium_6 rfl (lv_at hl 3 rfl) ?_
  refine pfx_ic hP hw (vx_runV (As := [.int x, .int y, .int z]) (rest := [.int 0, .ref o]) CF (hc _) (cwV 3 hts gL_segmentPremium_X6_segmentPremium rfl rfl rfl (by decide +kernel) ⟨Nat.le_of_ble_eq_true rfl, Nat.le_of_ble_eq_true rfl⟩) (pm_preV (hw.sub hP.1 hP.2.2.1) hs (pm_recv (hw.sub hP.1 hP.2.2.1) hq0 hf0 rfl)) rfl rfl hl.1 rfl (lv_room (Nat.le_of_ble_eq_true rfl)) dL_segmentPremium_7 ⟨Nat.le_of_ble_eq_true rfl, Nat.le_of_ble_eq_true rfl⟩) (fun E ce q9 La f1 H1 locs1 he hd hw1 h1 h2 h3 => ?_) (fun r La f1 H locs hp hd hw => ?_)
  · rcases hE E _ he with rfl | rfl
    · refine vx_catch hown [] ⟨0, 12, 15, 13⟩ [⟨0, 12, 19, 21⟩] (by rw [htab]; rfl) (fun z hz => absurd hz List.not_mem_nil) (by decide) (by decide) (hts (.classLink RL 13 "java/lang/IllegalArgumentException") (by decide +kernel)) (va_Nw.use rfl (hs.2.2.2.1 ("java/lang/IllegalArgumentException", "java/lang/IllegalArgumentException") (by decide +kernel))) h1 h2 h3 ?_
      refine lv_astore (lv' := [(5, .ref q9), (0, .ref a0), (1, .int x), (2, .int y), (3, .int z), (4, .ref o)]) hx hb dL_segmentPremium_15 hl (by decide) rfl (fun ls hl => ?_)
      refine lv_iconst (v := 1) hx hb dL_segmentPremium_17 (by decide) ?_
      exact vx_ret (pr_i (v := 1) hx hb hr hlocks hw1 rfl ⟨Nat.le_of_ble_eq_true rfl, Nat.le_of_ble_eq_true rfl⟩ (⟨La, f1, ro, fun h9 => hd o h9 (List.mem_singleton.mpr rfl), rfl, fun b hb => mix_n (fun e9 => hd b hb (e9 ▸ List.mem_singleton.mpr rfl)), mix_o.trans hfo, Or.inr ⟨_, he, by decide +kernel⟩⟩) dL_segmentPremium_18)
    · refine vx_catch hown [⟨0, 12, 15, 13⟩] ⟨0, 12, 19, 21⟩ [] (by rw [htab]; rfl) (fun z hz => by
          simp only [List.mem_cons, List.not_mem_nil, or_false] at hz
          subst hz
          exact Or.inr ⟨by decide, "java/lang/IllegalArgumentException", hts (.classLink RL 13 "java/lang/IllegalArgumentException") (by decide +kernel), hn ("java/lang/IndexOutOfBoundsException", "java/lang/IllegalArgumentException") (by decide +kernel)⟩) (by decide) (by decide) (hts (.classLink RL 21 "java/lang/IndexOutOfBoundsException") (by decide +kernel)) (va_Nw.use rfl (hs.2.2.2.1 ("java/lang/IndexOutOfBoundsException", "java/lang/IndexOutOfBoundsException") (by decide +kernel))) h1 h2 h3 ?_
      refine lv_astore (lv' := [(5, .ref q9), (0, .ref a0), (1, .int x), (2, .int y), (3, .int z), (4, .ref o)]) hx hb dL_segmentPremium_19 hl (by decide) rfl (fun ls hl => ?_)
      refine lv_iconst (v := 2) hx hb dL_segmentPremium_21 (by decide) ?_
      exact vx_ret (pr_i (v := 2) hx hb hr hlocks hw1 rfl ⟨Nat.le_of_ble_eq_true rfl, Nat.le_of_ble_eq_true rfl⟩ (⟨La, f1, ro, fun h9 => hd o h9 (List.mem_singleton.mpr rfl), rfl, fun b hb => mix_n (fun e9 => hd b hb (e9 ▸ List.mem_singleton.mpr rfl)), mix_o.trans hfo, Or.inr ⟨_, he, by decide +kernel⟩⟩) dL_segmentPremium_22)
  · refine lv_i2l (v := r.toInt64) hx hb dL_segmentPremium_10 rfl ?_
    refine pm_last (n := 1) (r := ro) hx hb hw (List.mem_append_right _ (List.mem_singleton.mpr rfl)) (mix_o.trans hfo) (j := 0) rfl (by unfold vp_in; decide) dL_segmentPremium_11 (fun H locs hw => ?_)
    refine lv_goto (tgt := 23) hx hb dL_segmentPremium_12 (by decide) ?_
    refine lv_iconst (v := 0) hx hb dL_segmentPremium_23 (by decide) ?_
    exact vx_ret (pr_i (v := 0) hx hb hr hlocks hw rfl ⟨Nat.le_of_ble_eq_true rfl, Nat.le_of_ble_eq_true rfl⟩ (⟨La, f1, _, fun h9 => hd o h9 (List.mem_singleton.mpr rfl), rfl, fun b hb => (fun (n9 : b ≠ o) => pu_n n9 (mix_n n9)) (fun e9 => hd b hb (e9 ▸ List.mem_singleton.mpr rfl)), pu_s, Or.inl ⟨rfl, r, hp, rfl⟩⟩) dL_segmentPremium_24)

set_option maxHeartbeats 4000000 in
set_option maxRecDepth 100000 in
theorem w_premium (l : Launch) (g : GE) (Lc : List Nat) (f : Nat → va_E) (a0 o : Nat) (fs : List Value) (ro : Nat → Int64) (x y : Int32) (post : Int32 → PE → Prop) (ex : String → PE → Prop) (hc : Xi l yX6_premium wsX6_premium (rmH 7 2 12) g Lc f [.ref a0, .int x, .int y] post ex 2 12) (hE : ∀ E u, ex E u → E = "java/lang/IndexOutOfBoundsException" ∨ E = "java/lang/IllegalArgumentException") (hq0 : a0 ∈ Lc) (hf0 : f a0 = .inr (8, fs)) (ho : o ∉ Lc) (hfo : f o = .inl (g.2.1 4, 1, .inr (.inl ro))) : Ni l yL_premium wsL_premium (rmH 8 2 12) g (Lc ++ [o]) f [.ref a0, .int x, .int y, .ref o] (WrP g o post ex [("java/lang/IndexOutOfBoundsException", 1), ("java/lang/IllegalArgumentException", 2)]) 2 12 := by
  intro sz
  refine vx_ofWH (cc := cL_premium) (maxL := 5) (ret := some .int) (hh := [(0, 10, 13, 21), (0, 10, 17, 13)]) (by decide) rfl ?_
  intro p e s m args below meth c s₁ B hml hv
  obtain ⟨rfl, hv⟩ := hv
  have hx := B.exec
  have hb := B.bytes
  have hr := B.returns
  have hts := atoms_spec (ws := wsL_premium) B.pre
  have hown : s.vm.findClass RL = some m.cls := findClass_of_methodNamed B.named
  have hlocks := B.notSynchronized
  have htab := vx_table (x := yL_open) B (hts (.codeWith yL_premium cL_premium 5 (some .int) [(0, 10, 13, 21), (0, 10, 17, 13)]) List.mem_cons_self)
  obtain ⟨⟨rfl, hw, hs⟩, hn⟩ := pn_begin hv
  generalize va_A (va_pl (Lc ++ [o]) f) s.heap.size = A at hw hs ⊢
  have CF := (⟨hx, hb, hml, hown, hts⟩ : CallFix p m c cL_premium 5 s _ wsL_premium RL)
  have hl := lv_entry ([.ref a0, .int x, .int y, .ref o]) (n := 5) (Nat.le_of_ble_eq_true rfl)
  rw [lg_entry_eq]
  generalize (lg_sl ([.ref a0, .int x, .int y, .ref o]) ++ List.replicate (5 - (lg_sl ([.ref a0, .int x, .int y, .ref o])).length) Slot.unset).toArray = ls at hl ⊢
  have hl : lv_has ls 5 [(0, .ref a0), (1, .int x), (2, .int y), (3, .ref o)] := hl
  have hnd := hw.nodup
  have hP : Pt (Lc ++ [o]) Lc [o] := ⟨fun b hb => List.mem_append_left _ hb, fun b hb => List.mem_append_right _ hb, (List.nodup_append.mp hnd).1, List.nodup_cons.mpr ⟨List.not_mem_nil, List.nodup_nil⟩, fun b hb h9 => ho (List.mem_singleton.mp h9 ▸ hb)⟩
  refine lv_aload_n hx hb dL_premium_0 rfl (lv_at hl 3 rfl) ?_
  refine lv_iconst (v := 0) hx hb dL_premium_1 (by decide) ?_
  refine lv_aload_n hx hb dL_premium_2 rfl (lv_at hl 0 rfl) ?_
  refine lv_iload_n hx hb dL_premium_3 rfl (lv_at hl 1 rfl) ?_
  refine lv_iload_n hx hb dL_premium_4 rfl (lv_at hl 2 rfl) ?_
  refine pfx_ic hP hw (vx_runV (As := [.int x, .int y]) (rest := [.int 0, .ref o]) CF (hc _) (cwV 2 hts gL_premium_X6_premium rfl rfl rfl (by decide +kernel) ⟨Nat.le_of_ble_eq_true rfl, Nat.le_of_ble_eq_true rfl⟩) (pm_preV (hw.sub hP.1 hP.2.2.1) hs (pm_recv (hw.sub hP.1 hP.2.2.1) hq0 hf0 rfl)) rfl rfl hl.1 rfl (lv_room (Nat.le_of_ble_eq_true rfl)) dL_premium_5 ⟨Nat.le_of_ble_eq_true rfl, Nat.le_of_ble_eq_true rfl⟩) (fun E ce q9 La f1 H1 locs1 he hd hw1 h1 h2 h3 => ?_) (fun r La f1 H locs hp hd hw => ?_)
  · rcases hE E _ he with rfl | rfl
    · refine vx_catch hown [] ⟨0, 10, 13, 21⟩ [⟨0, 10, 17, 13⟩] (by rw [htab]; rfl) (fun z hz => absurd hz List.not_mem_nil) (by decide) (by decide) (hts (.classLink RL 21 "java/lang/IndexOutOfBoundsException") (by decide +kernel)) (va_Nw.use rfl (hs.2.2.2.1 ("java/lang/IndexOutOfBoundsException", "java/lang/IndexOutOfBoundsException") (by decide +kernel))) h1 h2 h3 ?_
      refine lv_astore (lv' := [(4, .ref q9), (0, .ref a0), (1, .int x), (2, .int y), (3, .ref o)]) hx hb dL_premium_13 hl (by decide) rfl (fun ls hl => ?_)
      refine lv_iconst (v := 1) hx hb dL_premium_15 (by decide) ?_
      exact vx_ret (pr_i (v := 1) hx hb hr hlocks hw1 rfl ⟨Nat.le_of_ble_eq_true rfl, Nat.le_of_ble_eq_true rfl⟩ (⟨La, f1, ro, fun h9 => hd o h9 (List.mem_singleton.mpr rfl), rfl, fun b hb => mix_n (fun e9 => hd b hb (e9 ▸ List.mem_singleton.mpr rfl)), mix_o.trans hfo, Or.inr ⟨_, he, by decide +kernel⟩⟩) dL_premium_16)
    · refine vx_catch hown [⟨0, 10, 13, 21⟩] ⟨0, 10, 17, 13⟩ [] (by rw [htab]; rfl) (fun z hz => by
          simp only [List.mem_cons, List.not_mem_nil, or_false] at hz
          subst hz
          exact Or.inr ⟨by decide, "java/lang/IndexOutOfBoundsException", hts (.classLink RL 21 "java/lang/IndexOutOfBoundsException") (by decide +kernel), hn ("java/lang/IllegalArgumentException", "java/lang/IndexOutOfBoundsException") (by decide +kernel)⟩) (by decide) (by decide) (hts (.classLink RL 13 "java/lang/IllegalArgumentException") (by decide +kernel)) (va_Nw.use rfl (hs.2.2.2.1 ("java/lang/IllegalArgumentException", "java/lang/IllegalArgumentException") (by decide +kernel))) h1 h2 h3 ?_
      refine lv_astore (lv' := [(4, .ref q9), (0, .ref a0), (1, .int x), (2, .int y), (3, .ref o)]) hx hb dL_premium_17 hl (by decide) rfl (fun ls hl => ?_)
      refine lv_iconst (v := 2) hx hb dL_premium_19 (by decide) ?_
      exact vx_ret (pr_i (v := 2) hx hb hr hlocks hw1 rfl ⟨Nat.le_of_ble_eq_true rfl, Nat.le_of_ble_eq_true rfl⟩ (⟨La, f1, ro, fun h9 => hd o h9 (List.mem_singleton.mpr rfl), rfl, fun b hb => mix_n (fun e9 => hd b hb (e9 ▸ List.mem_singleton.mpr rfl)), mix_o.trans hfo, Or.inr ⟨_, he, by decide +kernel⟩⟩) dL_premium_20)
  · refine lv_i2l (v := r.toInt64) hx hb dL_premium_8 rfl ?_
    refine pm_last (n := 1) (r := ro) hx hb hw (List.mem_append_right _ (List.mem_singleton.mpr rfl)) (mix_o.trans hfo) (j := 0) rfl (by unfold vp_in; decide) dL_premium_9 (fun H locs hw => ?_)
    refine lv_goto (tgt := 21) hx hb dL_premium_10 (by decide) ?_
    refine lv_iconst (v := 0) hx hb dL_premium_21 (by decide) ?_
    exact vx_ret (pr_i (v := 0) hx hb hr hlocks hw rfl ⟨Nat.le_of_ble_eq_true rfl, Nat.le_of_ble_eq_true rfl⟩ (⟨La, f1, _, fun h9 => hd o h9 (List.mem_singleton.mpr rfl), rfl, fun b hb => (fun (n9 : b ≠ o) => pu_n n9 (mix_n n9)) (fun e9 => hd b hb (e9 ▸ List.mem_singleton.mpr rfl)), pu_s, Or.inl ⟨rfl, r, hp, rfl⟩⟩) dL_premium_22)

set_option maxHeartbeats 4000000 in
set_option maxRecDepth 100000 in
theorem w_premiumByDays (l : Launch) (g : GE) (Lc : List Nat) (f : Nat → va_E) (a0 o : Nat) (fs : List Value) (ro : Nat → Int64) (x y : Int32) (post : Int32 → PE → Prop) (ex : String → PE → Prop) (hc : Xi l yX6_premiumByDays wsX6_premiumByDays (rmH 6 2 12) g Lc f [.ref a0, .int x, .int y] post ex 2 12) (hE : ∀ E u, ex E u → E = "java/lang/IndexOutOfBoundsException" ∨ E = "java/lang/IllegalArgumentException") (hq0 : a0 ∈ Lc) (hf0 : f a0 = .inr (8, fs)) (ho : o ∉ Lc) (hfo : f o = .inl (g.2.1 4, 1, .inr (.inl ro))) : Ni l yL_premiumByDays wsL_premiumByDays (rmH 7 2 12) g (Lc ++ [o]) f [.ref a0, .int x, .int y, .ref o] (WrP g o post ex [("java/lang/IndexOutOfBoundsException", 1), ("java/lang/IllegalArgumentException", 2)]) 2 12 := by
  intro sz
  refine vx_ofWH (cc := cL_premiumByDays) (maxL := 5) (ret := some .int) (hh := [(0, 10, 13, 21), (0, 10, 17, 13)]) (by decide) rfl ?_
  intro p e s m args below meth c s₁ B hml hv
  obtain ⟨rfl, hv⟩ := hv
  have hx := B.exec
  have hb := B.bytes
  have hr := B.returns
  have hts := atoms_spec (ws := wsL_premiumByDays) B.pre
  have hown : s.vm.findClass RL = some m.cls := findClass_of_methodNamed B.named
  have hlocks := B.notSynchronized
  have htab := vx_table (x := yL_open) B (hts (.codeWith yL_premiumByDays cL_premiumByDays 5 (some .int) [(0, 10, 13, 21), (0, 10, 17, 13)]) List.mem_cons_self)
  obtain ⟨⟨rfl, hw, hs⟩, hn⟩ := pn_begin hv
  generalize va_A (va_pl (Lc ++ [o]) f) s.heap.size = A at hw hs ⊢
  have CF := (⟨hx, hb, hml, hown, hts⟩ : CallFix p m c cL_premiumByDays 5 s _ wsL_premiumByDays RL)
  have hl := lv_entry ([.ref a0, .int x, .int y, .ref o]) (n := 5) (Nat.le_of_ble_eq_true rfl)
  rw [lg_entry_eq]
  generalize (lg_sl ([.ref a0, .int x, .int y, .ref o]) ++ List.replicate (5 - (lg_sl ([.ref a0, .int x, .int y, .ref o])).length) Slot.unset).toArray = ls at hl ⊢
  have hl : lv_has ls 5 [(0, .ref a0), (1, .int x), (2, .int y), (3, .ref o)] := hl
  have hnd := hw.nodup
  have hP : Pt (Lc ++ [o]) Lc [o] := ⟨fun b hb => List.mem_append_left _ hb, fun b hb => List.mem_append_right _ hb, (List.nodup_append.mp hnd).1, List.nodup_cons.mpr ⟨List.not_mem_nil, List.nodup_nil⟩, fun b hb h9 => ho (List.mem_singleton.mp h9 ▸ hb)⟩
  refine lv_aload_n hx hb dL_premiumByDays_0 rfl (lv_at hl 3 rfl) ?_
  refine lv_iconst (v := 0) hx hb dL_premiumByDays_1 (by decide) ?_
  refine lv_aload_n hx hb dL_premiumByDays_2 rfl (lv_at hl 0 rfl) ?_
  refine lv_iload_n hx hb dL_premiumByDays_3 rfl (lv_at hl 1 rfl) ?_
  refine lv_iload_n hx hb dL_premiumByDays_4 rfl (lv_at hl 2 rfl) ?_
  refine pfx_ic hP hw (vx_runV (As := [.int x, .int y]) (rest := [.int 0, .ref o]) CF (hc _) (cwV 2 hts gL_premiumByDays_X6_premiumByDays rfl rfl rfl (by decide +kernel) ⟨Nat.le_of_ble_eq_true rfl, Nat.le_of_ble_eq_true rfl⟩) (pm_preV (hw.sub hP.1 hP.2.2.1) hs (pm_recv (hw.sub hP.1 hP.2.2.1) hq0 hf0 rfl)) rfl rfl hl.1 rfl (lv_room (Nat.le_of_ble_eq_true rfl)) dL_premiumByDays_5 ⟨Nat.le_of_ble_eq_true rfl, Nat.le_of_ble_eq_true rfl⟩) (fun E ce q9 La f1 H1 locs1 he hd hw1 h1 h2 h3 => ?_) (fun r La f1 H locs hp hd hw => ?_)
  · rcases hE E _ he with rfl | rfl
    · refine vx_catch hown [] ⟨0, 10, 13, 21⟩ [⟨0, 10, 17, 13⟩] (by rw [htab]; rfl) (fun z hz => absurd hz List.not_mem_nil) (by decide) (by decide) (hts (.classLink RL 21 "java/lang/IndexOutOfBoundsException") (by decide +kernel)) (va_Nw.use rfl (hs.2.2.2.1 ("java/lang/IndexOutOfBoundsException", "java/lang/IndexOutOfBoundsException") (by decide +kernel))) h1 h2 h3 ?_
      refine lv_astore (lv' := [(4, .ref q9), (0, .ref a0), (1, .int x), (2, .int y), (3, .ref o)]) hx hb dL_premiumByDays_13 hl (by decide) rfl (fun ls hl => ?_)
      refine lv_iconst (v := 1) hx hb dL_premiumByDays_15 (by decide) ?_
      exact vx_ret (pr_i (v := 1) hx hb hr hlocks hw1 rfl ⟨Nat.le_of_ble_eq_true rfl, Nat.le_of_ble_eq_true rfl⟩ (⟨La, f1, ro, fun h9 => hd o h9 (List.mem_singleton.mpr rfl), rfl, fun b hb => mix_n (fun e9 => hd b hb (e9 ▸ List.mem_singleton.mpr rfl)), mix_o.trans hfo, Or.inr ⟨_, he, by decide +kernel⟩⟩) dL_premiumByDays_16)
    · refine vx_catch hown [⟨0, 10, 13, 21⟩] ⟨0, 10, 17, 13⟩ [] (by rw [htab]; rfl) (fun z hz => by
          simp only [List.mem_cons, List.not_mem_nil, or_false] at hz
          subst hz
          exact Or.inr ⟨by decide, "java/lang/IndexOutOfBoundsException", hts (.classLink RL 21 "java/lang/IndexOutOfBoundsException") (by decide +kernel), hn ("java/lang/IllegalArgumentException", "java/lang/IndexOutOfBoundsException") (by decide +kernel)⟩) (by decide) (by decide) (hts (.classLink RL 13 "java/lang/IllegalArgumentException") (by decide +kernel)) (va_Nw.use rfl (hs.2.2.2.1 ("java/lang/IllegalArgumentException", "java/lang/IllegalArgumentException") (by decide +kernel))) h1 h2 h3 ?_
      refine lv_astore (lv' := [(4, .ref q9), (0, .ref a0), (1, .int x), (2, .int y), (3, .ref o)]) hx hb dL_premiumByDays_17 hl (by decide) rfl (fun ls hl => ?_)
      refine lv_iconst (v := 2) hx hb dL_premiumByDays_19 (by decide) ?_
      exact vx_ret (pr_i (v := 2) hx hb hr hlocks hw1 rfl ⟨Nat.le_of_ble_eq_true rfl, Nat.le_of_ble_eq_true rfl⟩ (⟨La, f1, ro, fun h9 => hd o h9 (List.mem_singleton.mpr rfl), rfl, fun b hb => mix_n (fun e9 => hd b hb (e9 ▸ List.mem_singleton.mpr rfl)), mix_o.trans hfo, Or.inr ⟨_, he, by decide +kernel⟩⟩) dL_premiumByDays_20)
  · refine lv_i2l (v := r.toInt64) hx hb dL_premiumByDays_8 rfl ?_
    refine pm_last (n := 1) (r := ro) hx hb hw (List.mem_append_right _ (List.mem_singleton.mpr rfl)) (mix_o.trans hfo) (j := 0) rfl (by unfold vp_in; decide) dL_premiumByDays_9 (fun H locs hw => ?_)
    refine lv_goto (tgt := 21) hx hb dL_premiumByDays_10 (by decide) ?_
    refine lv_iconst (v := 0) hx hb dL_premiumByDays_21 (by decide) ?_
    exact vx_ret (pr_i (v := 0) hx hb hr hlocks hw rfl ⟨Nat.le_of_ble_eq_true rfl, Nat.le_of_ble_eq_true rfl⟩ (⟨La, f1, _, fun h9 => hd o h9 (List.mem_singleton.mpr rfl), rfl, fun b hb => (fun (n9 : b ≠ o) => pu_n n9 (mix_n n9)) (fun e9 => hd b hb (e9 ▸ List.mem_singleton.mpr rfl)), pu_s, Or.inl ⟨rfl, r, hp, rfl⟩⟩) dL_premiumByDays_22)

set_option maxHeartbeats 4000000 in
set_option maxRecDepth 100000 in
theorem w_bill (l : Launch) (g : GE) (Lc : List Nat) (f : Nat → va_E) (a0 o : Nat) (fs : List Value) (ro : Nat → Int64) (x : Int32) (post : Int32 → PE → Prop) (ex : String → PE → Prop) (hc : Xi l yX6_bill wsX6_bill (rmH 7 1 6) g Lc f [.ref a0, .int x] post ex 1 6) (hE : ∀ E u, ex E u → E = "java/lang/IndexOutOfBoundsException") (hq0 : a0 ∈ Lc) (hf0 : f a0 = .inr (8, fs)) (ho : o ∉ Lc) (hfo : f o = .inl (g.2.1 4, 1, .inr (.inl ro))) : Ni l yL_bill wsL_bill (rmH 8 1 6) g (Lc ++ [o]) f [.ref a0, .int x, .ref o] (WrP g o post ex [("java/lang/IndexOutOfBoundsException", 1)]) 1 6 := by
  intro sz
  refine vx_ofWH (cc := cL_bill) (maxL := 4) (ret := some .int) (hh := [(0, 9, 12, 21)]) (by decide) rfl ?_
  intro p e s m args below meth c s₁ B hml hv
  obtain ⟨rfl, hv⟩ := hv
  have hx := B.exec
  have hb := B.bytes
  have hr := B.returns
  have hts := atoms_spec (ws := wsL_bill) B.pre
  have hown : s.vm.findClass RL = some m.cls := findClass_of_methodNamed B.named
  have hlocks := B.notSynchronized
  have htab := vx_table (x := yL_open) B (hts (.codeWith yL_bill cL_bill 4 (some .int) [(0, 9, 12, 21)]) List.mem_cons_self)
  obtain ⟨⟨rfl, hw, hs⟩, hn⟩ := pn_begin hv
  generalize va_A (va_pl (Lc ++ [o]) f) s.heap.size = A at hw hs ⊢
  have CF := (⟨hx, hb, hml, hown, hts⟩ : CallFix p m c cL_bill 4 s _ wsL_bill RL)
  have hl := lv_entry ([.ref a0, .int x, .ref o]) (n := 4) (Nat.le_of_ble_eq_true rfl)
  rw [lg_entry_eq]
  generalize (lg_sl ([.ref a0, .int x, .ref o]) ++ List.replicate (4 - (lg_sl ([.ref a0, .int x, .ref o])).length) Slot.unset).toArray = ls at hl ⊢
  have hl : lv_has ls 4 [(0, .ref a0), (1, .int x), (2, .ref o)] := hl
  have hnd := hw.nodup
  have hP : Pt (Lc ++ [o]) Lc [o] := ⟨fun b hb => List.mem_append_left _ hb, fun b hb => List.mem_append_right _ hb, (List.nodup_append.mp hnd).1, List.nodup_cons.mpr ⟨List.not_mem_nil, List.nodup_nil⟩, fun b hb h9 => ho (List.mem_singleton.mp h9 ▸ hb)⟩
  refine lv_aload_n hx hb dL_bill_0 rfl (lv_at hl 2 rfl) ?_
  refine lv_iconst (v := 0) hx hb dL_bill_1 (by decide) ?_
  refine lv_aload_n hx hb dL_bill_2 rfl (lv_at hl 0 rfl) ?_
  refine lv_iload_n hx hb dL_bill_3 rfl (lv_at hl 1 rfl) ?_
  refine pfx_ic hP hw (vx_runV (As := [.int x]) (rest := [.int 0, .ref o]) CF (hc _) (cwV 1 hts gL_bill_X6_bill rfl rfl rfl (by decide +kernel) ⟨Nat.le_of_ble_eq_true rfl, Nat.le_of_ble_eq_true rfl⟩) (pm_preV (hw.sub hP.1 hP.2.2.1) hs (pm_recv (hw.sub hP.1 hP.2.2.1) hq0 hf0 rfl)) rfl rfl hl.1 rfl (lv_room (Nat.le_of_ble_eq_true rfl)) dL_bill_4 ⟨Nat.le_of_ble_eq_true rfl, Nat.le_of_ble_eq_true rfl⟩) (fun E ce q9 La f1 H1 locs1 he hd hw1 h1 h2 h3 => ?_) (fun r La f1 H locs hp hd hw => ?_)
  · obtain rfl := hE E _ he
    refine vx_catch hown [] ⟨0, 9, 12, 21⟩ [] (by rw [htab]; rfl) (fun z hz => absurd hz List.not_mem_nil) (by decide) (by decide) (hts (.classLink RL 21 "java/lang/IndexOutOfBoundsException") (by decide +kernel)) (va_Nw.use rfl (hs.2.2.2.1 ("java/lang/IndexOutOfBoundsException", "java/lang/IndexOutOfBoundsException") (by decide +kernel))) h1 h2 h3 ?_
    refine lv_astore_n (lv' := [(3, .ref q9), (0, .ref a0), (1, .int x), (2, .ref o)]) hx hb dL_bill_12 rfl hl (by decide) rfl (fun ls hl => ?_)
    refine lv_iconst (v := 1) hx hb dL_bill_13 (by decide) ?_
    exact vx_ret (pr_i (v := 1) hx hb hr hlocks hw1 rfl ⟨Nat.le_of_ble_eq_true rfl, Nat.le_of_ble_eq_true rfl⟩ (⟨La, f1, ro, fun h9 => hd o h9 (List.mem_singleton.mpr rfl), rfl, fun b hb => mix_n (fun e9 => hd b hb (e9 ▸ List.mem_singleton.mpr rfl)), mix_o.trans hfo, Or.inr ⟨_, he, by decide +kernel⟩⟩) dL_bill_14)
  · refine lv_i2l (v := r.toInt64) hx hb dL_bill_7 rfl ?_
    refine pm_last (n := 1) (r := ro) hx hb hw (List.mem_append_right _ (List.mem_singleton.mpr rfl)) (mix_o.trans hfo) (j := 0) rfl (by unfold vp_in; decide) dL_bill_8 (fun H locs hw => ?_)
    refine lv_goto (tgt := 15) hx hb dL_bill_9 (by decide) ?_
    refine lv_iconst (v := 0) hx hb dL_bill_15 (by decide) ?_
    exact vx_ret (pr_i (v := 0) hx hb hr hlocks hw rfl ⟨Nat.le_of_ble_eq_true rfl, Nat.le_of_ble_eq_true rfl⟩ (⟨La, f1, _, fun h9 => hd o h9 (List.mem_singleton.mpr rfl), rfl, fun b hb => (fun (n9 : b ≠ o) => pu_n n9 (mix_n n9)) (fun e9 => hd b hb (e9 ▸ List.mem_singleton.mpr rfl)), pu_s, Or.inl ⟨rfl, r, hp, rfl⟩⟩) dL_bill_16)

set_option maxHeartbeats 4000000 in
set_option maxRecDepth 100000 in
theorem w_billed (l : Launch) (g : GE) (Lc : List Nat) (f : Nat → va_E) (a0 o : Nat) (fs : List Value) (ro : Nat → Int64) (x : Int32) (post : Int32 → PE → Prop) (ex : String → PE → Prop) (hc : Xi l yX6_billed wsX6_billed (rmH 4 1 6) g Lc f [.ref a0, .int x] post ex 1 6) (hE : ∀ E u, ex E u → E = "java/lang/IndexOutOfBoundsException") (hq0 : a0 ∈ Lc) (hf0 : f a0 = .inr (8, fs)) (ho : o ∉ Lc) (hfo : f o = .inl (g.2.1 4, 1, .inr (.inl ro))) : Ni l yL_billed wsL_billed (rmH 5 1 6) g (Lc ++ [o]) f [.ref a0, .int x, .ref o] (WrP g o post ex [("java/lang/IndexOutOfBoundsException", 1)]) 1 6 := by
  intro sz
  refine vx_ofWH (cc := cL_billed) (maxL := 4) (ret := some .int) (hh := [(0, 9, 12, 21)]) (by decide) rfl ?_
  intro p e s m args below meth c s₁ B hml hv
  obtain ⟨rfl, hv⟩ := hv
  have hx := B.exec
  have hb := B.bytes
  have hr := B.returns
  have hts := atoms_spec (ws := wsL_billed) B.pre
  have hown : s.vm.findClass RL = some m.cls := findClass_of_methodNamed B.named
  have hlocks := B.notSynchronized
  have htab := vx_table (x := yL_open) B (hts (.codeWith yL_billed cL_billed 4 (some .int) [(0, 9, 12, 21)]) List.mem_cons_self)
  obtain ⟨⟨rfl, hw, hs⟩, hn⟩ := pn_begin hv
  generalize va_A (va_pl (Lc ++ [o]) f) s.heap.size = A at hw hs ⊢
  have CF := (⟨hx, hb, hml, hown, hts⟩ : CallFix p m c cL_billed 4 s _ wsL_billed RL)
  have hl := lv_entry ([.ref a0, .int x, .ref o]) (n := 4) (Nat.le_of_ble_eq_true rfl)
  rw [lg_entry_eq]
  generalize (lg_sl ([.ref a0, .int x, .ref o]) ++ List.replicate (4 - (lg_sl ([.ref a0, .int x, .ref o])).length) Slot.unset).toArray = ls at hl ⊢
  have hl : lv_has ls 4 [(0, .ref a0), (1, .int x), (2, .ref o)] := hl
  have hnd := hw.nodup
  have hP : Pt (Lc ++ [o]) Lc [o] := ⟨fun b hb => List.mem_append_left _ hb, fun b hb => List.mem_append_right _ hb, (List.nodup_append.mp hnd).1, List.nodup_cons.mpr ⟨List.not_mem_nil, List.nodup_nil⟩, fun b hb h9 => ho (List.mem_singleton.mp h9 ▸ hb)⟩
  refine lv_aload_n hx hb dL_billed_0 rfl (lv_at hl 2 rfl) ?_
  refine lv_iconst (v := 0) hx hb dL_billed_1 (by decide) ?_
  refine lv_aload_n hx hb dL_billed_2 rfl (lv_at hl 0 rfl) ?_
  refine lv_iload_n hx hb dL_billed_3 rfl (lv_at hl 1 rfl) ?_
  refine pfx_ic hP hw (vx_runV (As := [.int x]) (rest := [.int 0, .ref o]) CF (hc _) (cwV 1 hts gL_billed_X6_billed rfl rfl rfl (by decide +kernel) ⟨Nat.le_of_ble_eq_true rfl, Nat.le_of_ble_eq_true rfl⟩) (pm_preV (hw.sub hP.1 hP.2.2.1) hs (pm_recv (hw.sub hP.1 hP.2.2.1) hq0 hf0 rfl)) rfl rfl hl.1 rfl (lv_room (Nat.le_of_ble_eq_true rfl)) dL_billed_4 ⟨Nat.le_of_ble_eq_true rfl, Nat.le_of_ble_eq_true rfl⟩) (fun E ce q9 La f1 H1 locs1 he hd hw1 h1 h2 h3 => ?_) (fun r La f1 H locs hp hd hw => ?_)
  · obtain rfl := hE E _ he
    refine vx_catch hown [] ⟨0, 9, 12, 21⟩ [] (by rw [htab]; rfl) (fun z hz => absurd hz List.not_mem_nil) (by decide) (by decide) (hts (.classLink RL 21 "java/lang/IndexOutOfBoundsException") (by decide +kernel)) (va_Nw.use rfl (hs.2.2.2.1 ("java/lang/IndexOutOfBoundsException", "java/lang/IndexOutOfBoundsException") (by decide +kernel))) h1 h2 h3 ?_
    refine lv_astore_n (lv' := [(3, .ref q9), (0, .ref a0), (1, .int x), (2, .ref o)]) hx hb dL_billed_12 rfl hl (by decide) rfl (fun ls hl => ?_)
    refine lv_iconst (v := 1) hx hb dL_billed_13 (by decide) ?_
    exact vx_ret (pr_i (v := 1) hx hb hr hlocks hw1 rfl ⟨Nat.le_of_ble_eq_true rfl, Nat.le_of_ble_eq_true rfl⟩ (⟨La, f1, ro, fun h9 => hd o h9 (List.mem_singleton.mpr rfl), rfl, fun b hb => mix_n (fun e9 => hd b hb (e9 ▸ List.mem_singleton.mpr rfl)), mix_o.trans hfo, Or.inr ⟨_, he, by decide +kernel⟩⟩) dL_billed_14)
  · refine lv_i2l (v := r.toInt64) hx hb dL_billed_7 rfl ?_
    refine pm_last (n := 1) (r := ro) hx hb hw (List.mem_append_right _ (List.mem_singleton.mpr rfl)) (mix_o.trans hfo) (j := 0) rfl (by unfold vp_in; decide) dL_billed_8 (fun H locs hw => ?_)
    refine lv_goto (tgt := 15) hx hb dL_billed_9 (by decide) ?_
    refine lv_iconst (v := 0) hx hb dL_billed_15 (by decide) ?_
    exact vx_ret (pr_i (v := 0) hx hb hr hlocks hw rfl ⟨Nat.le_of_ble_eq_true rfl, Nat.le_of_ble_eq_true rfl⟩ (⟨La, f1, _, fun h9 => hd o h9 (List.mem_singleton.mpr rfl), rfl, fun b hb => (fun (n9 : b ≠ o) => pu_n n9 (mix_n n9)) (fun e9 => hd b hb (e9 ▸ List.mem_singleton.mpr rfl)), pu_s, Or.inl ⟨rfl, r, hp, rfl⟩⟩) dL_billed_16)

end WRAP
