/-! making: objects, rows, rows of rows -/
section MAKE
variable {p : Program} {l : Launch} {e : Env} {R : Room} {s : State} {m : MethodId} {args : Array Value} {below : List Frame} {meth : Method} {c : Code} {H : Heap} {locs : List Loc} {cells slots : Nat} {Q : State → Prop}
variable {cc : ByteArray} {pc : Nat} {ls : Array Slot} {rest : List Value} {g : GE} {A : Nat → Prop} {L : List Nat} {f : Nat → va_E} {a : Nat}
theorem pl_mem {x : Nat × va_E} : x ∈ va_pl L f ↔ x.1 ∈ L ∧ x.2 = f x.1 := by
  constructor
  · intro h
    obtain ⟨b, hb, rfl⟩ := List.mem_map.mp h
    exact ⟨hb, rfl⟩
  · rintro ⟨h1, h2⟩
    exact List.mem_map.mpr ⟨x.1, h1, by rw [← h2]⟩
theorem va_P_mem {D : va_G} {cl : List vw_C} {ws : va_W} : va_P D cl ws H ↔ ∀ x ∈ ws, va_at D cl x H := by
  constructor
  · intro h x hx
    obtain ⟨k, hk, e⟩ := List.mem_iff_getElem.mp hx
    exact h k x (by rw [List.getElem?_eq_getElem hk, e])
  · intro h k x hk
    exact h x (List.mem_of_getElem? hk)
theorem va_D_pl (hn : L.Nodup) (hA : ∀ b ∈ L, A b) : va_D A (va_pl L f) := by
  refine ⟨fun i j x y hi hj hxy => ?_, fun k x hk => hA x.1 (pl_mem.mp (List.mem_of_getElem? hk)).1⟩
  simp only [va_pl, List.getElem?_map, Option.map_eq_some_iff] at hi hj
  obtain ⟨b, hb, rfl⟩ := hi
  obtain ⟨b', hb', rfl⟩ := hj
  have h : b = b' := hxy
  subst h
  obtain ⟨h1, e1⟩ := List.getElem?_eq_some_iff.mp hb
  obtain ⟨h2, e2⟩ := List.getElem?_eq_some_iff.mp hb'
  have hp := List.pairwise_iff_getElem.mp hn
  rcases Nat.lt_trichotomy i j with h | h | h
  · exact absurd (e1.trans e2.symm) (hp i j h1 h2 h)
  · exact h
  · exact absurd (e2.trans e1.symm) (hp j i h2 h1 h)
theorem va_D_nodup (hD : va_D A (va_pl L f)) : L.Nodup := by
  refine List.pairwise_iff_getElem.mpr (fun i j hi hj hij he => ?_)
  have h1 : (va_pl L f)[i]? = some (L[i], f L[i]) := by simp [va_pl, List.getElem?_eq_getElem hi]
  have h2 : (va_pl L f)[j]? = some (L[j], f L[j]) := by simp [va_pl, List.getElem?_eq_getElem hj]
  have := hD.1 i j _ _ h1 h2 he
  omega
set_option maxRecDepth 100000 in
/-- new int[3][365] -/
theorem pm_mna (hx : p.tables.exec = Jvm.exec) (hb : c.code = cc) {own : String} {index : Nat} (hown : s.vm.findClass own = some m.cls) (hclink : (Cond.classLink own index "[[I").before args s = true) (hs : SxU g s) (harr : (Cond.arrayClass .int).before args s = true) (hw : PW g A s H locs L f)
    (hcells : cells + (1 + 3) ≤ R.cells) (hslots : slots + (3 + 3 * 365) ≤ R.slots) (hdg : decode cc pc = .ok (.multianewarray index 2, 4))
    (kk : ∀ (q r0 r1 r2 : Nat) (H1 : Heap), q ∉ L → r0 ∉ L → r1 ∉ L → r2 ∉ L → (q ≠ r0 ∧ q ≠ r1 ∧ q ≠ r2 ∧ r0 ≠ r1 ∧ r0 ≠ r2 ∧ r1 ≠ r2) →
      PW g A s H1 locs (L ++ [q, r0, r1, r2]) (va_up (va_up (va_up (va_up f q (.inl (g.2.1 3, 3, .inr (.inr (.inr (.inr (fun i => if i = 0 then some r0 else if i = 1 then some r1 else if i = 2 then some r2 else none))))))) r0 (.inl (g.2.1 0, 365, .inl (fun _ => 0)))) r1 (.inl (g.2.1 0, 365, .inl (fun _ => 0)))) r2 (.inl (g.2.1 0, 365, .inl (fun _ => 0)))) →
      W p l e R s m args below meth c H1 locs (cells + 1 + 3) (slots + 3 + 3 * 365) Q (F0 m (pc + 4) ls (.ref q :: rest))) : W p l e R s m args below meth c H locs cells slots Q (F0 m pc ls (.int 365 :: .int 3 :: rest)) := by
  have hcy : s.vm.findClass (FieldType.array .int).toString = some (g.2.1 0) := (hw.1.2 0 _ rfl).2
  have hcl2 : (Cond.classLink own index ("[" ++ (FieldType.array .int).toString)).before args s = true := by
    rw [show ("[" ++ (FieldType.array FieldType.int).toString) = "[[I" from by decide]
    exact hclink
  refine va_mna (X := []) (N' := 3) (K' := 365) (z := (365, .inl (fun _ => 0))) (ty := .int) hx hb hown hcl2 hs.2.2.2.2.2.2.2.1 harr hcy hw.1 hw.2.1 hw.2.2.1 hw.2.2.2.1 hw.2.2.2.2 (by decide) (by decide) rfl rfl (Nat.le_of_ble_eq_true rfl) (Nat.le_of_ble_eq_true rfl) (Nat.le_of_ble_eq_true rfl) rfl rfl hcells hslots (fun c9 => rfl) hdg (fun q r cA H1 hinj hnl hK hP hD hS => ?_)
  obtain rfl := va_K_last hK (i := 3) rfl (fun n h => by cases h)
  have e3 : (List.range 3).map r = [r 0, r 1, r 2] := rfl
  rw [e3] at hP hD
  have hPm := va_P_mem.mp hP
  have d01 : r 0 ≠ r 1 := fun h => absurd (hinj 0 1 (by decide) (by decide) h) (by decide)
  have d02 : r 0 ≠ r 2 := fun h => absurd (hinj 0 2 (by decide) (by decide) h) (by decide)
  have d12 : r 1 ≠ r 2 := fun h => absurd (hinj 1 2 (by decide) (by decide) h) (by decide)
  have n0 := hnl 0 (by decide)
  have n1 := hnl 1 (by decide)
  have n2 := hnl 2 (by decide)
  have hq0 : ∀ b, b ∈ L ++ [r 0, r 1, r 2] → q ≠ b := by
    intro b hb h
    subst h
    obtain ⟨k, hk⟩ := pm_k (vr_up f [r 0, r 1, r 2] (.inl (g.2.1 0, 365, .inl (fun _ => 0)))) hb
    have := hD.1 0 (k + 1) (q, .inl (g.2.1 3, 3, .inr (.inr (.inr (.inr (fun i => if i < 3 then some (r i) else none)))))) (q, (vr_up f [r 0, r 1, r 2] (.inl (g.2.1 0, 365, .inl (fun _ => 0)))) q) (by rfl) (by show (_ :: va_pl _ _)[k + 1]? = _; rw [List.getElem?_cons_succ]; exact hk) rfl
    omega
  have hql : q ∉ L := fun h => hq0 q (List.mem_append_left _ h) rfl
  have q0 : q ≠ r 0 := hq0 _ (by simp)
  have q1 : q ≠ r 1 := hq0 _ (by simp)
  have q2 : q ≠ r 2 := hq0 _ (by simp)
  refine kk q (r 0) (r 1) (r 2) H1 hql n0 n1 n2 ⟨q0, q1, q2, d01, d02, d12⟩ ⟨hw.1, va_P_mem.mpr ?_, va_D_pl ?_ ?_, hS, hw.2.2.2.2⟩
  · intro x hx
    obtain ⟨b, hm, rfl⟩ := List.mem_map.mp hx
    by_cases h2 : b = r 2
    · subst h2
      rw [pu_s]
      exact hPm _ (List.mem_append_right _ (pl_mem.mpr ⟨by simp, (vr_up_in (by simp)).symm⟩))
    by_cases h1 : b = r 1
    · subst h1
      rw [pu_n h2 pu_s]
      exact hPm _ (List.mem_append_right _ (pl_mem.mpr ⟨by simp, (vr_up_in (by simp)).symm⟩))
    by_cases h0 : b = r 0
    · subst h0
      rw [pu_n h2 (pu_n h1 pu_s)]
      exact hPm _ (List.mem_append_right _ (pl_mem.mpr ⟨by simp, (vr_up_in (by simp)).symm⟩))
    by_cases hq : b = q
    · subst hq
      rw [pu_n h2 (pu_n h1 (pu_n h0 pu_s))]
      have h9 := hPm (b, .inl (g.2.1 3, 3, .inr (.inr (.inr (.inr (fun i => if i < 3 then some (r i) else none)))))) (List.mem_append_left _ (by simp))
      have ef : (fun i => if i < 3 then some (r i) else none) = (fun i : Nat => if i = 0 then some (r 0) else if i = 1 then some (r 1) else if i = 2 then some (r 2) else none) := by
        funext i
        match i with
        | 0 => rfl
        | 1 => rfl
        | 2 => rfl
        | i + 3 => rw [if_neg (by omega), if_neg (by omega), if_neg (by omega), if_neg (by omega)]
      rw [ef] at h9
      exact h9
    · rw [pu_n h2 (pu_n h1 (pu_n h0 (pu_n hq rfl)))]
      have hbL : b ∈ L := by
        simp only [List.mem_append, List.mem_cons, List.not_mem_nil, or_false] at hm
        rcases hm with h | h | h | h | h
        · exact h
        · exact absurd h hq
        · exact absurd h h0
        · exact absurd h h1
        · exact absurd h h2
      exact hPm _ (List.mem_append_right _ (pl_mem.mpr ⟨List.mem_append_left _ hbL, (vr_up_ne (by simp [h0, h1, h2])).symm⟩))
  · have hLn := va_D_nodup hw.2.2.1
    rw [List.nodup_append]
    refine ⟨hLn, by simp [q0, q1, q2, d01, d02, d12], ?_⟩
    intro x hx y hy hxy
    subst hxy
    simp only [List.mem_cons, List.not_mem_nil, or_false] at hy
    rcases hy with rfl | rfl | rfl | rfl
    · exact hql hx
    · exact n0 hx
    · exact n1 hx
    · exact n2 hx
  · intro b hb
    simp only [List.mem_append, List.mem_cons, List.not_mem_nil, or_false] at hb
    have hA2 : ∀ x ∈ ([] ++ [(q, (.inl (g.2.1 3, 3, .inr (.inr (.inr (.inr (fun i => if i < 3 then some (r i) else none))))) : va_E))]) ++ va_pl (L ++ [r 0, r 1, r 2]) (vr_up f [r 0, r 1, r 2] (.inl (g.2.1 0, 365, .inl (fun _ => 0)))), A x.1 := by
      intro x hx
      obtain ⟨k, hk, e⟩ := List.mem_iff_getElem.mp hx
      exact hD.2 k x (by rw [List.getElem?_eq_getElem hk, e])
    have hA3 : ∀ b, b ∈ L ++ [r 0, r 1, r 2] → A b := fun b hb => hA2 (b, (vr_up f [r 0, r 1, r 2] (.inl (g.2.1 0, 365, .inl (fun _ => 0)))) b) (List.mem_append_right _ (pl_mem.mpr ⟨hb, rfl⟩))
    rcases hb with h | rfl | rfl | rfl | rfl
    · exact hA3 b (List.mem_append_left _ h)
    · exact hA2 (b, .inl (g.2.1 3, 3, .inr (.inr (.inr (.inr (fun i => if i < 3 then some (r i) else none)))))) (List.mem_append_left _ (by simp))
    · exact hA3 _ (by simp)
    · exact hA3 _ (by simp)
    · exact hA3 _ (by simp)
end MAKE
