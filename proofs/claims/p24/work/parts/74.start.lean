/-! what the machine gives at the law's start -/
section START
theorem aOA_spec {args : Array Value} {s : State} {t : FieldType} (h : (Cond.arrayOver (.array t)).before args s = true) : ∃ comp c k, s.vm.classes[c]? = some k ∧ k.kind = .array comp (.array t) ∧ s.vm.findClass ("[" ++ (FieldType.array t).toString) = some c := by
  simp only [Cond.before, Cond.holds, Cond.value, beq_iff_eq] at h
  cases hc : s.vm.findClass (FieldType.array t).toString with
  | none => simp [hc] at h
  | some comp =>
    simp only [hc, Option.bind_some, Option.bind_eq_some_iff, Option.map_eq_some_iff] at h
    obtain ⟨c, hi, k, hk, hb⟩ := h
    obtain ⟨hlt, hp, -⟩ := Array.findIdx?_eq_some_iff_getElem.mp hi
    have hkk : s.vm.classes[c] = k := (Array.getElem?_eq_some_iff.mp hk).2
    rw [hkk] at hp
    cases hkind : k.kind with
    | array component ty =>
      rw [hkind] at hb hp
      simp at hb hp
      exact ⟨comp, c, k, hk, by rw [hkind, hp, hb.1], hb.2⟩
    | _ => rw [hkind] at hb; simp at hb
theorem cast_self {args : Array Value} {s : State} {C : String} (h : (Cond.initialized C).before args s = true) : va_Nw (.castable C C) s := by
  cases hc : s.vm.findClass C with
  | none => simp [Cond.before, Cond.holds, Cond.value, hc] at h
  | some c => simp [va_Nw, Cond.before, Cond.holds, Cond.value, hc, va_asg]
theorem arr_of {s : State} {ty : FieldType} {cA : ClassId} {kA : Class} {comp : ClassId} (h2 : s.vm.classes[cA]? = some kA) (h3 : kA.kind = .array comp ty) : ArrOfT s cA ty := fun n z => ⟨fun k h => (by cases h), kA, h2, comp, h3⟩
theorem arr_known {args : Array Value} {s : State} {ty : FieldType} (hty : ∀ n, ty ≠ .object n) (h : (Cond.arrayClass ty).before args s = true) : ∃ cA : ClassId, ArrOfT s cA ty ∧ va_RA s cA ty := by
  obtain ⟨cA, kA, comp, h1, h2, h3⟩ := Cond.arrayClass_spec h
  refine ⟨cA, arr_of h2 h3, ?_⟩
  cases ty with
  | object n => exact absurd rfl (hty n)
  | _ => exact h1

set_option maxHeartbeats 2000000 in
set_option maxRecDepth 100000 in
theorem start_K {args : Array Value} {s : State} (hts : ∀ w ∈ lw_tbl, w.before args s = true) : ∃ (D : va_G) (ar : Nat → ClassId), ∀ c : Nat → Nat, va_K D vwCl (tysOf (D, ar, c)) s := by
  obtain ⟨c0, i0, h0⟩ := u_known (C := RJ0) (T := TJ0) (N := 4) (n := 4) hts inJ0 (hts (.instantiable RJ0 4) (by decide +kernel))
  obtain ⟨c1, i1, h1⟩ := u_known (C := RJ4) (T := TJ4) (N := 4) (n := 4) hts inJ4 (hts (.instantiable RJ4 4) (by decide +kernel))
  obtain ⟨c2, i2, h2⟩ := u_known (C := RJx4a65c) (T := TJx4a65c) (N := 3) (n := 3) hts inJx4a65c (hts (.instantiable RJx4a65c 3) (by decide +kernel))
  obtain ⟨c3, i3, h3⟩ := u_known (C := RX0) (T := TX0) (N := 8) (n := 8) hts inX0 (hts (.instantiable RX0 8) (by decide +kernel))
  obtain ⟨c4, i4, h4⟩ := u_known (C := RX2) (T := TX2) (N := 3) (n := 3) hts inX2 (hts (.instantiable RX2 3) (by decide +kernel))
  obtain ⟨c5, i5, h5⟩ := u_known (C := RX3) (T := TX3) (N := 3) (n := 3) hts inX3 (hts (.instantiable RX3 3) (by decide +kernel))
  obtain ⟨c6, i6, h6⟩ := u_known (C := RX4) (T := TX4) (N := 2) (n := 2) hts inX4 (hts (.instantiable RX4 2) (by decide +kernel))
  obtain ⟨c7, i7, h7⟩ := u_known (C := RX5) (T := TX5) (N := 2) (n := 2) hts inX5 (hts (.instantiable RX5 2) (by decide +kernel))
  obtain ⟨c8, i8, h8⟩ := u_known (C := RX6) (T := TX6) (N := 6) (n := 6) hts inX6 (hts (.instantiable RX6 6) (by decide +kernel))
  obtain ⟨a0, x0⟩ := arr_known (ty := .int) (fun n h => by cases h) (hts (.arrayClass .int) (by decide +kernel))
  obtain ⟨a1, x1⟩ := arr_known (ty := .byte) (fun n h => by cases h) (hts (.arrayClass .byte) (by decide +kernel))
  obtain ⟨o2, a2, k2, p1, -, p2, p3, p4⟩ := Cond.arrayOver_spec (n := "java/lang/Object") (hts (.arrayOver (.object "java/lang/Object")) (by decide +kernel))
  obtain ⟨o3, a3, k3, q2, q3, q4⟩ := aOA_spec (t := .int) (hts (.arrayOver (.array .int)) (by decide +kernel))
  refine ⟨(fun k => if k = 0 then c0 else if k = 1 then c1 else if k = 2 then c2 else if k = 3 then c3 else if k = 4 then c4 else if k = 5 then c5 else if k = 6 then c6 else if k = 7 then c7 else c8, fun k => if k = 0 then i0 else if k = 1 then i1 else if k = 2 then i2 else if k = 3 then i3 else if k = 4 then i4 else if k = 5 then i5 else if k = 6 then i6 else if k = 7 then i7 else i8), fun k => if k = 0 then a0 else if k = 1 then a1 else if k = 2 then a2 else a3, fun c => ⟨?_, ?_⟩⟩
  · intro k q hq
    match k, hq with
    | 0, hq => cases hq; exact h0
    | 1, hq => cases hq; exact h1
    | 2, hq => cases hq; exact h2
    | 3, hq => cases hq; exact h3
    | 4, hq => cases hq; exact h4
    | 5, hq => cases hq; exact h5
    | 6, hq => cases hq; exact h6
    | 7, hq => cases hq; exact h7
    | 8, hq => cases hq; exact h8
    | k + 9, hq => simp [vwCl] at hq
  · intro k q hq
    match k, hq with
    | 0, hq => cases hq; exact x0
    | 1, hq => cases hq; exact x1
    | 2, hq => cases hq; exact ⟨arr_of p2 p3, k2, o2, p2, p3, p1, p4⟩
    | 3, hq => cases hq; exact ⟨arr_of q2 q3, q4⟩
    | k + 4, hq => simp [tysOf] at hq
def kNm : List String := ["SET", "ADD", "CANCEL", "REINSTATE"]
set_option maxHeartbeats 2000000 in
set_option maxRecDepth 100000 in
theorem start_kinds {args : Array Value} {s : State} {A : Nat → Prop} (hts : ∀ w ∈ lw_tbl, w.before args s = true) (hs : ∀ w ∈ flatC (Jvm.Cond.and given_1 narrow_1), w.before args s = true) (hA : ∀ a : Nat, a < s.heap.size → ¬ A a) : ∃ ad : Nat → Nat, va_En "Backdater$Kind" "LBackdater$Kind;" kNm [] ad A s s.heap := by
  refine va_Enof (fun i hi => ?_) (hts (.initialized "Backdater$Kind") (by decide +kernel)) (fun i hi => ?_) (fun q hq => absurd hq List.not_mem_nil) (fun i j hi hj hij => ?_) hA
  · match i, hi with
    | 0, _ => exact hts (.laysStatic "Backdater$Kind" "SET" "LBackdater$Kind;") (by decide +kernel)
    | 1, _ => exact hts (.laysStatic "Backdater$Kind" "ADD" "LBackdater$Kind;") (by decide +kernel)
    | 2, _ => exact hts (.laysStatic "Backdater$Kind" "CANCEL" "LBackdater$Kind;") (by decide +kernel)
    | 3, _ => exact hts (.laysStatic "Backdater$Kind" "REINSTATE" "LBackdater$Kind;") (by decide +kernel)
    | i + 4, h => exact absurd h (by simp [kNm])
  · match i, hi with
    | 0, _ => exact hs (.exactly (.static "Backdater$Kind" "SET" "LBackdater$Kind;") "Backdater$Kind") (by decide +kernel)
    | 1, _ => exact hs (.exactly (.static "Backdater$Kind" "ADD" "LBackdater$Kind;") "Backdater$Kind") (by decide +kernel)
    | 2, _ => exact hs (.exactly (.static "Backdater$Kind" "CANCEL" "LBackdater$Kind;") "Backdater$Kind") (by decide +kernel)
    | 3, _ => exact hs (.exactly (.static "Backdater$Kind" "REINSTATE" "LBackdater$Kind;") "Backdater$Kind") (by decide +kernel)
    | i + 4, h => exact absurd h (by simp [kNm])
  · have key : ∀ i j : Nat, i < j → j < 4 → (Cond.not (.eq (.static "Backdater$Kind" (kNm.getD i "") "LBackdater$Kind;") (.static "Backdater$Kind" (kNm.getD j "") "LBackdater$Kind;"))).before args s = true := by
      intro i j h1 h2
      match i, j, h1, h2 with
      | 0, 1, _, _ => exact hs (.not (.eq (.static "Backdater$Kind" "SET" "LBackdater$Kind;") (.static "Backdater$Kind" "ADD" "LBackdater$Kind;"))) (by decide +kernel)
      | 0, 2, _, _ => exact hs (.not (.eq (.static "Backdater$Kind" "SET" "LBackdater$Kind;") (.static "Backdater$Kind" "CANCEL" "LBackdater$Kind;"))) (by decide +kernel)
      | 0, 3, _, _ => exact hs (.not (.eq (.static "Backdater$Kind" "SET" "LBackdater$Kind;") (.static "Backdater$Kind" "REINSTATE" "LBackdater$Kind;"))) (by decide +kernel)
      | 1, 2, _, _ => exact hs (.not (.eq (.static "Backdater$Kind" "ADD" "LBackdater$Kind;") (.static "Backdater$Kind" "CANCEL" "LBackdater$Kind;"))) (by decide +kernel)
      | 1, 3, _, _ => exact hs (.not (.eq (.static "Backdater$Kind" "ADD" "LBackdater$Kind;") (.static "Backdater$Kind" "REINSTATE" "LBackdater$Kind;"))) (by decide +kernel)
      | 2, 3, _, _ => exact hs (.not (.eq (.static "Backdater$Kind" "CANCEL" "LBackdater$Kind;") (.static "Backdater$Kind" "REINSTATE" "LBackdater$Kind;"))) (by decide +kernel)
      | i, j + 4, _, h => omega
      | i + 3, 3, h, _ => omega
      | i + 2, 2, h, _ => omega
      | i + 1, 1, h, _ => omega
      | _, 0, h, _ => omega
    have hi4 : i < 4 := hi
    have hj4 : j < 4 := hj
    rcases Nat.lt_or_gt_of_ne hij with h | h
    · exact Or.inl (key i j h hj4)
    · exact Or.inr (key j i h hi4)
set_option maxHeartbeats 2000000 in
set_option maxRecDepth 100000 in
theorem start_U {g : GE} {args : Array Value} {s : State} (hts : ∀ w ∈ lw_tbl, w.before args s = true) (hs : ∀ w ∈ flatC (Jvm.Cond.and given_1 narrow_1), w.before args s = true) (h5 : va_Mi "[Ljava/lang/Object;" (g.2.2 5) s) (hinj : ∀ i j : Nat, i < 4 → j < 4 → g.2.2 i = g.2.2 j → i = j) : SxU g s := by
  have t1 : ∀ q ∈ sx_texts, Cond.stringRef q.1 q.2.1 q.2.2 ∈ lw_tbl := by decide +kernel
  have t2 : ∀ q ∈ sx_texts, Cond.exactly (.string q.1 q.2.1) "java/lang/String" ∈ flatC (Jvm.Cond.and given_1 narrow_1) := by decide +kernel
  have t3 : ∀ w ∈ sx_words, w ∈ lw_tbl := by decide +kernel
  have t3g : ∀ w ∈ sx_words, w.onTables = true := by decide +kernel
  have t4 : ∀ q ∈ sx_cast, q.1 ≠ q.2 → Cond.castable q.1 q.2 ∈ lw_tbl := by decide +kernel
  have t4b : ∀ q ∈ sx_cast, Cond.initialized q.1 ∈ lw_tbl := by decide +kernel
  have t5 : ∀ y ∈ sx_decl, Cond.declares y ∈ lw_tbl := by decide +kernel
  have t6 : ∀ q ∈ sx_nest, Cond.methodLinkNest q.1 q.2.1 q.2.2 "Backdater" ∈ lw_tbl := by decide +kernel
  refine ⟨fun q hq => ?_, fun w hw => va_Nw.of (t3g w hw) (hts w (t3 w hw)), fun q hq => ?_, fun y hy => va_Nw.of rfl (hts _ (t5 y hy)), fun q hq => va_Nw.of rfl (hts _ (t6 q hq)), ⟨?_, ?_, ?_, ?_⟩, va_AO.of (hts (.arrayOver (.object "java/lang/Object")) (by decide +kernel)), va_AOA.of (hts (.arrayOver (.array .int)) (by decide +kernel)), h5, va_Dc.of (hts (.declares ⟨"java/lang/Object", "getClass", "()Ljava/lang/Class;"⟩) (by decide +kernel)), hinj⟩
  · obtain ⟨a, c, cA, kA, q1, -⟩ := Cond.exactly_spec (args := args) (first := s) (o := none) (s := s) (idx := []) (t := .string q.1 q.2.1) (cls := "java/lang/String") (hs _ (t2 q hq))
    exact ⟨a, vk_R.of (hts _ (t1 q hq)) q1⟩
  · by_cases h : q.1 = q.2
    · have e : q = (q.1, q.1) := Prod.ext rfl h.symm
      rw [e]
      exact cast_self (hts _ (t4b q hq))
    · exact va_Nw.of rfl (hts _ (t4 q hq h))
  · exact va_Fw.of (hts (.declares ⟨"java/util/List", "size", "()I"⟩) (by decide +kernel)) (hts (.interfaceMethod "java/util/List" "java/util/List" "size" "()I") (by decide +kernel)) (hts (.publicMethod yJx4a65c_size_8abf5) (by decide +kernel)) (hts (.unhidden "java/util/ArrayList" "size" "()I") (by decide +kernel)) (hts (.castable "java/util/ArrayList" "java/util/List") (by decide +kernel))
  · exact va_Fw.of (hts (.declares ⟨"java/util/List", "get", "(I)Ljava/lang/Object;"⟩) (by decide +kernel)) (hts (.interfaceMethod "java/util/List" "java/util/List" "get" "(I)Ljava/lang/Object;") (by decide +kernel)) (hts (.publicMethod yJx4a65c_get_915e3) (by decide +kernel)) (hts (.unhidden "java/util/ArrayList" "get" "(I)Ljava/lang/Object;") (by decide +kernel)) (hts (.castable "java/util/ArrayList" "java/util/List") (by decide +kernel))
  · exact va_Fw.of (hts (.declares ⟨"java/util/List", "add", "(Ljava/lang/Object;)Z"⟩) (by decide +kernel)) (hts (.interfaceMethod "java/util/List" "java/util/List" "add" "(Ljava/lang/Object;)Z") (by decide +kernel)) (hts (.publicMethod yJx4a65c_add_9ea2d) (by decide +kernel)) (hts (.unhidden "java/util/ArrayList" "add" "(Ljava/lang/Object;)Z") (by decide +kernel)) (hts (.castable "java/util/ArrayList" "java/util/List") (by decide +kernel))
  · exact va_Fw.of (hts (.declares ⟨"java/util/List", "add", "(ILjava/lang/Object;)V"⟩) (by decide +kernel)) (hts (.interfaceMethod "java/util/List" "java/util/List" "add" "(ILjava/lang/Object;)V") (by decide +kernel)) (hts (.publicMethod yJx4a65c_add_7a177) (by decide +kernel)) (hts (.unhidden "java/util/ArrayList" "add" "(ILjava/lang/Object;)V") (by decide +kernel)) (hts (.castable "java/util/ArrayList" "java/util/List") (by decide +kernel))
set_option maxHeartbeats 2000000 in
set_option maxRecDepth 100000 in
theorem start_N {args : Array Value} {s : State} (hs : ∀ w ∈ flatC (Jvm.Cond.and given_1 narrow_1), w.before args s = true) : NcU s := by
  have t : ∀ q ∈ sx_nc, Cond.not (.castable q.1 q.2) ∈ flatC (Jvm.Cond.and given_1 narrow_1) := by decide +kernel
  exact fun q hq => va_Nc.of (hs _ (t q hq))
set_option maxHeartbeats 2000000 in
set_option maxRecDepth 100000 in
theorem start_g {args : Array Value} {s : State} {A : Nat → Prop} (hts : ∀ w ∈ lw_tbl, w.before args s = true) (hgv : (Jvm.Cond.and given_1 narrow_1).before args s = true) (hA : ∀ a : Nat, a < s.heap.size → ¬ A a) : ∃ g : GE, va_K g.1 vwCl (tysOf g) s ∧ Sx g A s s.heap ∧ NcU s := by
  have hs := flat_of_before _ hgv
  obtain ⟨D, ar, hK⟩ := start_K hts
  obtain ⟨ad, had⟩ := start_kinds hts hs hA
  obtain ⟨t, ht, hT⟩ := va_Tof (tm := .static "java/util/ArrayList" "DEFAULTCAPACITY_EMPTY_ELEMENTDATA" "[Ljava/lang/Object;") (ty := .object "java/lang/Object") (N := 0) (f := fun _ => .null) (A := A) (by decide) (hs (.arrayOf (.static "java/util/ArrayList" "DEFAULTCAPACITY_EMPTY_ELEMENTDATA" "[Ljava/lang/Object;") (.object "java/lang/Object")) (by decide +kernel)) (va_eqt (hs (.eq (.length (.static "java/util/ArrayList" "DEFAULTCAPACITY_EMPTY_ELEMENTDATA" "[Ljava/lang/Object;")) (.int 0)) (by decide +kernel))) (fun j hj => absurd hj (Nat.not_lt_zero j)) hA
  obtain ⟨mi, hmi⟩ := va_Mi.of (hs (.isRef (.mirror "[Ljava/lang/Object;")) (by decide +kernel))
  refine ⟨(D, ar, fun i => if i < 4 then ad i else if i = 4 then t else mi), hK _, ⟨⟨⟨?_, ?_, ?_, ?_⟩, ⟨?_, ?_⟩, ?_, ?_⟩, start_U hts hs ?_ ?_⟩, start_N hs⟩
  · exact (had.1 0 (by decide)).1
  · exact (had.1 1 (by decide)).1
  · exact (had.1 2 (by decide)).1
  · exact (had.1 3 (by decide)).1
  · exact va_Zref (hts (.laysStatic "java/util/ArrayList" "DEFAULTCAPACITY_EMPTY_ELEMENTDATA" "[Ljava/lang/Object;") (by decide +kernel)) (hts (.initialized "java/util/ArrayList") (by decide +kernel)) ht hA
  · exact hT
  · exact vx_Zqof (hts (.laysStatic "java/lang/Throwable" "UNASSIGNED_STACK" "[Ljava/lang/StackTraceElement;") (by decide +kernel)) (hts (.initialized "java/lang/Throwable") (by decide +kernel)) (hs (.isRef (.static "java/lang/Throwable" "UNASSIGNED_STACK" "[Ljava/lang/StackTraceElement;")) (by decide +kernel)) hA
  · exact vx_Zqof (hts (.laysStatic "java/lang/Throwable" "SUPPRESSED_SENTINEL" "Ljava/util/List;") (by decide +kernel)) (hts (.initialized "java/lang/Throwable") (by decide +kernel)) (hs (.isRef (.static "java/lang/Throwable" "SUPPRESSED_SENTINEL" "Ljava/util/List;")) (by decide +kernel)) hA
  · exact hmi
  · intro i j hi hj h
    dsimp only at h
    rw [if_pos hi, if_pos hj] at h
    exact had.2 i j hi hj h
end START
