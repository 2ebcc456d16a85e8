section
-- ===== PART A: goes FIRST, ahead of the names: the tables' words, and 'selects' of the private methods out of them =====
/-- a private method of a class that the tables say can be made, by its rows of tables_1 -/
def lw_okq (q : MethodName × Nat) : Prop := (q.1.cls ≠ "java/lang/invoke/MethodHandle" ∧ q.1.cls ≠ "java/lang/invoke/VarHandle") ∧ Cond.instantiable q.1.cls q.2 ∈ tables_1 ∧ Cond.privateMethod q.1 ∈ tables_1 ∧ Cond.instanceMethod q.1 ∈ tables_1
theorem lw_p0 : lw_okq (⟨"java/lang/Throwable", "fillInStackTrace", "(I)Ljava/lang/Throwable;"⟩, 6) := ⟨⟨by decide +kernel, by decide +kernel⟩, List.mem_of_getElem? (i := 204) (by decide +kernel), List.mem_of_getElem? (i := 202) (by decide +kernel), List.mem_of_getElem? (i := 203) (by decide +kernel)⟩
theorem lw_p1 : lw_okq (⟨"java/util/ArrayList", "add", "(Ljava/lang/Object;[Ljava/lang/Object;I)V"⟩, 3) := ⟨⟨by decide +kernel, by decide +kernel⟩, List.mem_of_getElem? (i := 41) (by decide +kernel), List.mem_of_getElem? (i := 280) (by decide +kernel), List.mem_of_getElem? (i := 281) (by decide +kernel)⟩
theorem lw_p2 : lw_okq (⟨"java/util/ArrayList", "grow", "()[Ljava/lang/Object;"⟩, 3) := ⟨⟨by decide +kernel, by decide +kernel⟩, List.mem_of_getElem? (i := 41) (by decide +kernel), List.mem_of_getElem? (i := 284) (by decide +kernel), List.mem_of_getElem? (i := 285) (by decide +kernel)⟩
theorem lw_p3 : lw_okq (⟨"java/util/ArrayList", "grow", "(I)[Ljava/lang/Object;"⟩, 3) := ⟨⟨by decide +kernel, by decide +kernel⟩, List.mem_of_getElem? (i := 41) (by decide +kernel), List.mem_of_getElem? (i := 288) (by decide +kernel), List.mem_of_getElem? (i := 289) (by decide +kernel)⟩
theorem lw_p4 : lw_okq (⟨"Backdater", "policyNumbered", "(I)LBackdater$Policy;"⟩, 6) := ⟨⟨by decide +kernel, by decide +kernel⟩, List.mem_of_getElem? (i := 33) (by decide +kernel), List.mem_of_getElem? (i := 390) (by decide +kernel), List.mem_of_getElem? (i := 391) (by decide +kernel)⟩
theorem lw_p5 : lw_okq (⟨"Backdater", "tell", "(LBackdater$Policy;LBackdater$Kind;III)I"⟩, 6) := ⟨⟨by decide +kernel, by decide +kernel⟩, List.mem_of_getElem? (i := 33) (by decide +kernel), List.mem_of_getElem? (i := 416) (by decide +kernel), List.mem_of_getElem? (i := 417) (by decide +kernel)⟩
theorem lw_p6 : lw_okq (⟨"java/util/ArrayList", "rangeCheckForAdd", "(I)V"⟩, 3) := ⟨⟨by decide +kernel, by decide +kernel⟩, List.mem_of_getElem? (i := 41) (by decide +kernel), List.mem_of_getElem? (i := 479) (by decide +kernel), List.mem_of_getElem? (i := 480) (by decide +kernel)⟩
theorem lw_p7 : lw_okq (⟨"java/util/ArrayList", "outOfBoundsMsg", "(I)Ljava/lang/String;"⟩, 3) := ⟨⟨by decide +kernel, by decide +kernel⟩, List.mem_of_getElem? (i := 41) (by decide +kernel), List.mem_of_getElem? (i := 484) (by decide +kernel), List.mem_of_getElem? (i := 485) (by decide +kernel)⟩
theorem lw_p8 : lw_okq (⟨"Backdater", "changeNumbered", "(I)LBackdater$Change;"⟩, 6) := ⟨⟨by decide +kernel, by decide +kernel⟩, List.mem_of_getElem? (i := 33) (by decide +kernel), List.mem_of_getElem? (i := 755) (by decide +kernel), List.mem_of_getElem? (i := 756) (by decide +kernel)⟩
theorem lw_p9 : lw_okq (⟨"Backdater", "demandKnown", "(I)V"⟩, 6) := ⟨⟨by decide +kernel, by decide +kernel⟩, List.mem_of_getElem? (i := 33) (by decide +kernel), List.mem_of_getElem? (i := 779) (by decide +kernel), List.mem_of_getElem? (i := 780) (by decide +kernel)⟩
theorem lw_p10 : lw_okq (⟨"Backdater", "layVersion", "(LBackdater$Policy;II)V"⟩, 6) := ⟨⟨by decide +kernel, by decide +kernel⟩, List.mem_of_getElem? (i := 33) (by decide +kernel), List.mem_of_getElem? (i := 783) (by decide +kernel), List.mem_of_getElem? (i := 784) (by decide +kernel)⟩
theorem lw_p11 : lw_okq (⟨"Backdater", "layInFrom", "(LBackdater$Policy;III)I"⟩, 6) := ⟨⟨by decide +kernel, by decide +kernel⟩, List.mem_of_getElem? (i := 33) (by decide +kernel), List.mem_of_getElem? (i := 792) (by decide +kernel), List.mem_of_getElem? (i := 793) (by decide +kernel)⟩
theorem lw_p12 : lw_okq (⟨"Backdater$Version", "putValue", "(II)V"⟩, 2) := ⟨⟨by decide +kernel, by decide +kernel⟩, List.mem_of_getElem? (i := 90) (by decide +kernel), List.mem_of_getElem? (i := 802) (by decide +kernel), List.mem_of_getElem? (i := 803) (by decide +kernel)⟩
theorem lw_p13 : lw_okq (⟨"Backdater", "rateOfVersion", "(LBackdater$Policy;I)I"⟩, 6) := ⟨⟨by decide +kernel, by decide +kernel⟩, List.mem_of_getElem? (i := 33) (by decide +kernel), List.mem_of_getElem? (i := 830) (by decide +kernel), List.mem_of_getElem? (i := 831) (by decide +kernel)⟩
theorem lw_p14 : lw_okq (⟨"Backdater", "layYear", "(LBackdater$Policy;I)V"⟩, 6) := ⟨⟨by decide +kernel, by decide +kernel⟩, List.mem_of_getElem? (i := 33) (by decide +kernel), List.mem_of_getElem? (i := 848) (by decide +kernel), List.mem_of_getElem? (i := 849) (by decide +kernel)⟩
theorem lw_p15 : lw_okq (⟨"Backdater$Year", "isStart", "(I)Z"⟩, 2) := ⟨⟨by decide +kernel, by decide +kernel⟩, List.mem_of_getElem? (i := 104) (by decide +kernel), List.mem_of_getElem? (i := 861) (by decide +kernel), List.mem_of_getElem? (i := 862) (by decide +kernel)⟩
def lw_privs_1 : List (MethodName × Nat) := [(⟨"java/lang/Throwable", "fillInStackTrace", "(I)Ljava/lang/Throwable;"⟩, 6), (⟨"java/util/ArrayList", "add", "(Ljava/lang/Object;[Ljava/lang/Object;I)V"⟩, 3), (⟨"java/util/ArrayList", "grow", "()[Ljava/lang/Object;"⟩, 3), (⟨"java/util/ArrayList", "grow", "(I)[Ljava/lang/Object;"⟩, 3), (⟨"Backdater", "policyNumbered", "(I)LBackdater$Policy;"⟩, 6), (⟨"Backdater", "tell", "(LBackdater$Policy;LBackdater$Kind;III)I"⟩, 6), (⟨"java/util/ArrayList", "rangeCheckForAdd", "(I)V"⟩, 3), (⟨"java/util/ArrayList", "outOfBoundsMsg", "(I)Ljava/lang/String;"⟩, 3), (⟨"Backdater", "changeNumbered", "(I)LBackdater$Change;"⟩, 6), (⟨"Backdater", "demandKnown", "(I)V"⟩, 6), (⟨"Backdater", "layVersion", "(LBackdater$Policy;II)V"⟩, 6), (⟨"Backdater", "layInFrom", "(LBackdater$Policy;III)I"⟩, 6), (⟨"Backdater$Version", "putValue", "(II)V"⟩, 2), (⟨"Backdater", "rateOfVersion", "(LBackdater$Policy;I)I"⟩, 6), (⟨"Backdater", "layYear", "(LBackdater$Policy;I)V"⟩, 6), (⟨"Backdater$Year", "isStart", "(I)Z"⟩, 2)]
theorem lw_r1 : ∀ q ∈ lw_privs_1, lw_okq q := List.forall_mem_cons.mpr ⟨lw_p0, List.forall_mem_cons.mpr ⟨lw_p1, List.forall_mem_cons.mpr ⟨lw_p2, List.forall_mem_cons.mpr ⟨lw_p3, List.forall_mem_cons.mpr ⟨lw_p4, List.forall_mem_cons.mpr ⟨lw_p5, List.forall_mem_cons.mpr ⟨lw_p6, List.forall_mem_cons.mpr ⟨lw_p7, List.forall_mem_cons.mpr ⟨lw_p8, List.forall_mem_cons.mpr ⟨lw_p9, List.forall_mem_cons.mpr ⟨lw_p10, List.forall_mem_cons.mpr ⟨lw_p11, List.forall_mem_cons.mpr ⟨lw_p12, List.forall_mem_cons.mpr ⟨lw_p13, List.forall_mem_cons.mpr ⟨lw_p14, List.forall_mem_cons.mpr ⟨lw_p15, fun _ h => absurd h List.not_mem_nil⟩⟩⟩⟩⟩⟩⟩⟩⟩⟩⟩⟩⟩⟩⟩⟩
theorem lw_p16 : lw_okq (⟨"Backdater", "startOfSegment", "(III)I"⟩, 6) := ⟨⟨by decide +kernel, by decide +kernel⟩, List.mem_of_getElem? (i := 33) (by decide +kernel), List.mem_of_getElem? (i := 872) (by decide +kernel), List.mem_of_getElem? (i := 873) (by decide +kernel)⟩
theorem lw_p17 : lw_okq (⟨"Backdater$Year", "dayBehindSegmentFrom", "(I)I"⟩, 2) := ⟨⟨by decide +kernel, by decide +kernel⟩, List.mem_of_getElem? (i := 104) (by decide +kernel), List.mem_of_getElem? (i := 892) (by decide +kernel), List.mem_of_getElem? (i := 893) (by decide +kernel)⟩
theorem lw_p18 : lw_okq (⟨"Backdater$Year", "chargeUpTo", "(I)I"⟩, 2) := ⟨⟨by decide +kernel, by decide +kernel⟩, List.mem_of_getElem? (i := 104) (by decide +kernel), List.mem_of_getElem? (i := 896) (by decide +kernel), List.mem_of_getElem? (i := 897) (by decide +kernel)⟩
theorem lw_p19 : lw_okq (⟨"Backdater", "premiumBySegments", "(LBackdater$Policy;I)I"⟩, 6) := ⟨⟨by decide +kernel, by decide +kernel⟩, List.mem_of_getElem? (i := 33) (by decide +kernel), List.mem_of_getElem? (i := 907) (by decide +kernel), List.mem_of_getElem? (i := 908) (by decide +kernel)⟩
theorem lw_p20 : lw_okq (⟨"BackdaterModel", "tells", "(IIIIIZ)I"⟩, 21) := ⟨⟨by decide +kernel, by decide +kernel⟩, List.mem_of_getElem? (i := 937) (by decide +kernel), List.mem_of_getElem? (i := 1041) (by decide +kernel), List.mem_of_getElem? (i := 1042) (by decide +kernel)⟩
theorem lw_p21 : lw_okq (⟨"BackdaterModel", "isPolicy", "(I)Z"⟩, 21) := ⟨⟨by decide +kernel, by decide +kernel⟩, List.mem_of_getElem? (i := 937) (by decide +kernel), List.mem_of_getElem? (i := 1045) (by decide +kernel), List.mem_of_getElem? (i := 1046) (by decide +kernel)⟩
theorem lw_p22 : lw_okq (⟨"BackdaterModel", "isChange", "(I)Z"⟩, 21) := ⟨⟨by decide +kernel, by decide +kernel⟩, List.mem_of_getElem? (i := 937) (by decide +kernel), List.mem_of_getElem? (i := 1065) (by decide +kernel), List.mem_of_getElem? (i := 1066) (by decide +kernel)⟩
theorem lw_p23 : lw_okq (⟨"BackdaterModel", "isKnown", "(II)Z"⟩, 21) := ⟨⟨by decide +kernel, by decide +kernel⟩, List.mem_of_getElem? (i := 937) (by decide +kernel), List.mem_of_getElem? (i := 1077) (by decide +kernel), List.mem_of_getElem? (i := 1078) (by decide +kernel)⟩
theorem lw_p24 : lw_okq (⟨"BackdaterModel", "looks", "(IIII)Z"⟩, 21) := ⟨⟨by decide +kernel, by decide +kernel⟩, List.mem_of_getElem? (i := 937) (by decide +kernel), List.mem_of_getElem? (i := 1085) (by decide +kernel), List.mem_of_getElem? (i := 1086) (by decide +kernel)⟩
theorem lw_p25 : lw_okq (⟨"BackdaterModel", "goes", "(II)V"⟩, 21) := ⟨⟨by decide +kernel, by decide +kernel⟩, List.mem_of_getElem? (i := 937) (by decide +kernel), List.mem_of_getElem? (i := 1089) (by decide +kernel), List.mem_of_getElem? (i := 1090) (by decide +kernel)⟩
theorem lw_p26 : lw_okq (⟨"BackdaterModel", "weighs", "(II)I"⟩, 21) := ⟨⟨by decide +kernel, by decide +kernel⟩, List.mem_of_getElem? (i := 937) (by decide +kernel), List.mem_of_getElem? (i := 1096) (by decide +kernel), List.mem_of_getElem? (i := 1097) (by decide +kernel)⟩
theorem lw_p27 : lw_okq (⟨"BackdaterModel", "begins", "(I)Z"⟩, 21) := ⟨⟨by decide +kernel, by decide +kernel⟩, List.mem_of_getElem? (i := 937) (by decide +kernel), List.mem_of_getElem? (i := 1112) (by decide +kernel), List.mem_of_getElem? (i := 1113) (by decide +kernel)⟩
theorem lw_p28 : lw_okq (⟨"BackdaterModel", "found", "(III)I"⟩, 21) := ⟨⟨by decide +kernel, by decide +kernel⟩, List.mem_of_getElem? (i := 937) (by decide +kernel), List.mem_of_getElem? (i := 1120) (by decide +kernel), List.mem_of_getElem? (i := 1121) (by decide +kernel)⟩
theorem lw_p29 : lw_okq (⟨"BackdaterModel", "charge", "(I)I"⟩, 21) := ⟨⟨by decide +kernel, by decide +kernel⟩, List.mem_of_getElem? (i := 937) (by decide +kernel), List.mem_of_getElem? (i := 1128) (by decide +kernel), List.mem_of_getElem? (i := 1129) (by decide +kernel)⟩
theorem lw_p30 : lw_okq (⟨"BackdaterModel", "all", "(II)I"⟩, 21) := ⟨⟨by decide +kernel, by decide +kernel⟩, List.mem_of_getElem? (i := 937) (by decide +kernel), List.mem_of_getElem? (i := 1136) (by decide +kernel), List.mem_of_getElem? (i := 1137) (by decide +kernel)⟩
def lw_privs_2 : List (MethodName × Nat) := [(⟨"Backdater", "startOfSegment", "(III)I"⟩, 6), (⟨"Backdater$Year", "dayBehindSegmentFrom", "(I)I"⟩, 2), (⟨"Backdater$Year", "chargeUpTo", "(I)I"⟩, 2), (⟨"Backdater", "premiumBySegments", "(LBackdater$Policy;I)I"⟩, 6), (⟨"BackdaterModel", "tells", "(IIIIIZ)I"⟩, 21), (⟨"BackdaterModel", "isPolicy", "(I)Z"⟩, 21), (⟨"BackdaterModel", "isChange", "(I)Z"⟩, 21), (⟨"BackdaterModel", "isKnown", "(II)Z"⟩, 21), (⟨"BackdaterModel", "looks", "(IIII)Z"⟩, 21), (⟨"BackdaterModel", "goes", "(II)V"⟩, 21), (⟨"BackdaterModel", "weighs", "(II)I"⟩, 21), (⟨"BackdaterModel", "begins", "(I)Z"⟩, 21), (⟨"BackdaterModel", "found", "(III)I"⟩, 21), (⟨"BackdaterModel", "charge", "(I)I"⟩, 21), (⟨"BackdaterModel", "all", "(II)I"⟩, 21)]
theorem lw_r2 : ∀ q ∈ lw_privs_2, lw_okq q := List.forall_mem_cons.mpr ⟨lw_p16, List.forall_mem_cons.mpr ⟨lw_p17, List.forall_mem_cons.mpr ⟨lw_p18, List.forall_mem_cons.mpr ⟨lw_p19, List.forall_mem_cons.mpr ⟨lw_p20, List.forall_mem_cons.mpr ⟨lw_p21, List.forall_mem_cons.mpr ⟨lw_p22, List.forall_mem_cons.mpr ⟨lw_p23, List.forall_mem_cons.mpr ⟨lw_p24, List.forall_mem_cons.mpr ⟨lw_p25, List.forall_mem_cons.mpr ⟨lw_p26, List.forall_mem_cons.mpr ⟨lw_p27, List.forall_mem_cons.mpr ⟨lw_p28, List.forall_mem_cons.mpr ⟨lw_p29, List.forall_mem_cons.mpr ⟨lw_p30, fun _ h => absurd h List.not_mem_nil⟩⟩⟩⟩⟩⟩⟩⟩⟩⟩⟩⟩⟩⟩⟩
def lw_privs : List (MethodName × Nat) := lw_privs_1 ++ (lw_privs_2)
def lw_tbl : List Cond := k2_sels lw_privs ++ tables_1
theorem lw_privs_ok : ∀ q ∈ lw_privs, lw_okq q := by
  show ∀ q ∈ lw_privs_1 ++ (lw_privs_2), lw_okq q
  exact List.forall_mem_append.mpr ⟨lw_r1, lw_r2⟩
/-- an array of arrays of ty can be made (a word that the printed names use and the kit lacks) -/
def va_AOA (ty : FieldType) (U : State) : Prop := (Cond.arrayOver (.array ty)).before #[] U = true
theorem va_AOA.of {ty : FieldType} {A : Array Value} {U : State} (h : (Cond.arrayOver (.array ty)).before A U = true) : va_AOA ty U := h
theorem va_AOA.use {ty : FieldType} {A : Array Value} {U : State} (h : va_AOA ty U) : (Cond.arrayOver (.array ty)).before A U = true := h
end
section
/-! ===== BEGIN words of one list among another's, by their places ===== -/
theorem goodIn_r {big : List Cond} (ws : List Cond) (ps : List Nat) (hp : ws = ps.filterMap (fun i => big[i]?)) (h : ws.all goodWord = true) : GoodIn big ws := by
  intro w hw
  have h1 := List.all_eq_true.mp h w hw
  rw [hp] at hw
  obtain ⟨i, -, hi⟩ := List.mem_filterMap.mp hw
  have hm : w ∈ big := by first | exact List.mem_of_getElem? hi | exact List.getElem?_mem hi
  exact ⟨hm, good_of_word h1⟩
theorem goodIn_app {big a b : List Cond} (ha : GoodIn big a) (hb : GoodIn big b) : GoodIn big (a ++ b) := fun w h => (List.mem_append.mp h).elim (ha w) (hb w)
theorem goodIn_ca {big a b : List Cond} {c : Cond} (ha : GoodIn big (c :: a)) (hb : GoodIn big b) : GoodIn big (c :: (a ++ b)) := fun w h => (List.mem_cons.mp h).elim (fun e => ha w (List.mem_cons.mpr (Or.inl e))) (fun h => (List.mem_append.mp h).elim (fun h => ha w (List.mem_cons.mpr (Or.inr h))) (hb w))
theorem goodIn_sub {big ws : List Cond} (hm : ∀ w ∈ ws, w ∈ big) (h : ws.all goodWord = true) : GoodIn big ws := fun w hw => ⟨hm w hw, good_of_word (List.all_eq_true.mp h w hw)⟩
/-! ===== END ===== -/

/-! ===== BEGIN new T[n][m]: the outer array a place, the inner ones among the pooled ===== -/
/-- f, but v at every address of l -/
def vr_up {α : Type} (f : Nat → α) (l : List Nat) (v : α) : Nat → α := fun a => if a ∈ l then v else f a
theorem vr_up_in {α : Type} {f : Nat → α} {l : List Nat} {v : α} {a : Nat} (h : a ∈ l) : vr_up f l v a = v := if_pos h
theorem vr_up_ne {α : Type} {f : Nat → α} {l : List Nat} {v : α} {a : Nat} (h : a ∉ l) : vr_up f l v a = f a := if_neg h
theorem vr_rows {L l : List Nat} {f : Nat → va_E} {e : va_E} (h : ∀ a, a ∈ l → a ∉ L) : va_pl L f ++ l.map (fun a => (a, e)) = va_pl (L ++ l) (vr_up f l e) := by
  unfold va_pl
  rw [List.map_append]
  congr 1
  · apply List.map_congr_left
    intro a ha
    rw [vr_up_ne (fun q => h a q ha)]
  · apply List.map_congr_left
    intro a ha
    rw [vr_up_in ha]
theorem vr_lay {X rows : va_W} {x : Nat × va_E} {pl : va_W} {D : va_G} {cl : List vw_C} {H : Heap} (hP : va_P D cl (((X ++ pl) ++ [x]) ++ rows) H) : va_P D cl ((X ++ [x]) ++ (pl ++ rows)) H := by
  rw [List.append_assoc (X ++ pl)] at hP
  have h := va_P.swap hP
  rw [← List.append_assoc X] at h
  have h2 := va_P.swap h
  rw [List.append_assoc (X ++ [x])] at h2
  exact h2
theorem vr_layD {X rows : va_W} {x : Nat × va_E} {pl : va_W} {A : Nat → Prop} (hD : va_D A (((X ++ pl) ++ [x]) ++ rows)) : va_D A ((X ++ [x]) ++ (pl ++ rows)) := by
  rw [List.append_assoc (X ++ pl)] at hD
  have h := va_D.swap hD
  rw [← List.append_assoc X] at h
  have h2 := va_D.swap h
  rw [List.append_assoc (X ++ [x])] at h2
  exact h2
theorem vr_outer (c : ClassId) (N h0 : Nat) : ∀ i : Nat, Jvm.Free.Multi.outerC c N h0 i = arrV c N (fun j => va_rf (if j < i then some (h0 + 1 + j) else none))
  | 0 => by
    show ({ cls := c, slots := Array.replicate N .null, vm := .none } : Cell) = _
    rw [arrV_new]
    refine congrArg (arrV c N) (funext fun j => ?_)
    simp [va_rf]
  | i + 1 => by
    show (Jvm.Free.Multi.outerC c N h0 i).setSlot i (.ref (h0 + 1 + i)) = _
    rw [vr_outer c N h0 i, arrV_store]
    refine congrArg (arrV c N) (funext fun j => ?_)
    by_cases e : j = i
    · subst e
      simp [updV, va_rf]
    · by_cases h : j < i
      · simp [updV, e, h, Nat.lt_succ_of_lt h]
      · simp [updV, e, h, show ¬ j < i + 1 by omega]
section VGM
variable {p : Program} {l : Launch} {e : Env} {R : Room} {s : State} {m : MethodId} {args : Array Value} {below : List Frame} {meth : Method} {c : Code} {H : Heap} {locs : List Loc} {cells slots : Nat} {Q : State → Prop}
variable {cc : ByteArray} {pc : Nat} {ls : Array Slot} {rest : List Value} {D : va_G} {cl : List vw_C} {A : Nat → Prop} {a : Nat} {tys : List (ClassId × FieldType)} {ws : va_W} {H0 : Heap}
theorem va_mna {X : va_W} {L : List Nat} {f : Nat → va_E} {cc : ByteArray} (hexec : p.tables.exec = Jvm.exec) (hb : c.code = cc) {own : String} {index : Nat} {ty : FieldType} {cy : ClassId} (hown : s.vm.findClass own = some m.cls) (hclink : (Cond.classLink own index ("[" ++ (FieldType.array ty).toString)).before args s = true) (hover : va_AOA ty s) (harr : (Cond.arrayClass ty).before args s = true) (hcy : s.vm.findClass (FieldType.array ty).toString = some cy)
    (hK : va_K D cl tys s) (hP : va_P D cl (X ++ va_pl L f) H) (hD : va_D A (X ++ va_pl L f)) (hS : va_S A H0 H locs) (hA : ∀ q, H0.size ≤ q → A q) {n k : Int32} {N' K' : Nat} {z : vp_A} (hn : ¬ n < 0) (hk : ¬ k < 0) (hN : n.toNatClampNeg = N') (hM : k.toNatClampNeg = K')
    (hb1 : N' * 4 ≤ 536870912) (hb2 : K' * componentBytes ty ≤ 536870912) (hb3 : K' ≤ 536870912) (hdf : fits ty (defaultValue ty) = true) (hdd : (defaultValue ty).isDefault = true) (hcells : cells + (1 + N') ≤ R.cells) (hslots : slots + (N' + N' * K') ≤ R.slots) (hz : ∀ c : ClassId, Jvm.Free.Multi.innerC c K' (defaultValue ty) = vp_cell c z) (hdg : decode cc pc = .ok (.multianewarray index 2, 4))
    (kk : ∀ (q : Nat) (r : Nat → Nat) (cA : ClassId) (H1 : Heap), (∀ i j : Nat, i < N' → j < N' → r i = r j → i = j) → (∀ i : Nat, i < N' → r i ∉ L) → va_K D cl (tys ++ [(cA, .array ty)]) s →
      va_P D cl ((X ++ [(q, .inl (cA, N', .inr (.inr (.inr (.inr (fun i => if i < N' then some (r i) else none))))))]) ++ va_pl (L ++ (List.range N').map r) (vr_up f ((List.range N').map r) (.inl (cy, z)))) H1 → va_D A ((X ++ [(q, .inl (cA, N', .inr (.inr (.inr (.inr (fun i => if i < N' then some (r i) else none))))))]) ++ va_pl (L ++ (List.range N').map r) (vr_up f ((List.range N').map r) (.inl (cy, z)))) → va_S A H0 H1 locs →
      W p l e R s m args below meth c H1 locs (cells + 1 + N') (slots + N' + N' * K') Q (F0 m (pc + 4) ls (.ref q :: rest))) : W p l e R s m args below meth c H locs cells slots Q (F0 m pc ls (.int k :: .int n :: rest)) := by
  subst hN
  subst hM
  intro T hT Xs
  obtain ⟨vm₁, cA, comp, -, fA, fC, hO, -, X', step⟩ := Xs.multianewarray2F hexec hown hclink (va_AOA.use hover) harr (g := F0 m pc ls (.int k :: .int n :: rest)) rfl (by rw [hb]; exact hdg) rfl hn hk hb1 hb2 hb3 hdf hdd hcells hslots
  have ec : some cy = some comp := hcy.symm.trans fC
  cases ec
  generalize hF : Jvm.Free.Multi.fill (T.setVm vm₁) cA cy n.toNatClampNeg k.toNatClampNeg (defaultValue ty) n.toNatClampNeg = F at X' step
  have hTh : (T.setVm vm₁).heap = H := hT
  obtain ⟨f1, f2, -, -⟩ := Jvm.Free.Multi.fill_facts (T.setVm vm₁) cA cy n.toNatClampNeg k.toNatClampNeg (defaultValue ty) n.toNatClampNeg
  rw [hF, hTh] at f1 f2
  have hold : ∀ x : Nat, x < H.size → F.heap[x]? = H[x]? := fun x hx => by
    have := Jvm.Free.Multi.fill_old (T.setVm vm₁) cA cy n.toNatClampNeg k.toNatClampNeg (defaultValue ty) (a := x) (by rw [hTh]; exact hx) n.toNatClampNeg
    rw [hF, hTh] at this
    exact this
  have hrow : ∀ j : Nat, j < n.toNatClampNeg → F.heap[H.size + 1 + j]? = some (vp_cell cy z) := fun j hj => by
    have := Jvm.Free.Multi.fill_inner (T.setVm vm₁) cA cy n.toNatClampNeg k.toNatClampNeg (defaultValue ty) n.toNatClampNeg j hj
    rw [hF, hTh, hz] at this
    exact this
  have hout : Jvm.Free.Multi.outerC cA n.toNatClampNeg H.size n.toNatClampNeg = vp_cell cA (n.toNatClampNeg, .inr (.inr (.inr (.inr (fun i => if i < n.toNatClampNeg then some (H.size + 1 + i) else none))))) := by
    rw [vp_cell_q]
    exact vr_outer cA n.toNatClampNeg H.size n.toNatClampNeg
  rw [hout] at f2
  have hlt : ∀ a, a ∈ L → a < H.size := fun a ha => by
    obtain ⟨k9, hk9⟩ := va_pl_get (X := X) (f := f) ha
    exact (hP k9 _ hk9).lt
  have hnl : ∀ i : Nat, i < n.toNatClampNeg → H.size + 1 + i ∉ L := fun i _ h => by
    have := hlt _ h
    omega
  have hnm : ∀ a, a ∈ (List.range n.toNatClampNeg).map (fun i => H.size + 1 + i) → a ∉ L := fun a ha h => by
    obtain ⟨i, -, rfl⟩ := List.mem_map.mp ha
    have := hlt _ h
    omega
  have hP0 : va_P D cl (X ++ va_pl L f) F.heap := hP.kept (fun k9 x hx => hold x.1 ((hP k9 x hx).lt))
  have hP1 : va_P D cl ((X ++ va_pl L f) ++ [(H.size, .inl (cA, n.toNatClampNeg, .inr (.inr (.inr (.inr (fun i => if i < n.toNatClampNeg then some (H.size + 1 + i) else none))))))]) F.heap := hP0.app (fun k9 x hx => by
    have h0 : k9 < 1 := (List.getElem?_eq_some_iff.mp hx).1
    rw [show k9 = 0 by omega] at hx
    cases hx
    exact f2)
  have hP2 : va_P D cl (((X ++ va_pl L f) ++ [(H.size, .inl (cA, n.toNatClampNeg, .inr (.inr (.inr (.inr (fun i => if i < n.toNatClampNeg then some (H.size + 1 + i) else none))))))]) ++ ((List.range n.toNatClampNeg).map (fun i => H.size + 1 + i)).map (fun a => (a, .inl (cy, z)))) F.heap := hP1.app (fun k9 x hx => by
    obtain ⟨a, ha, rfl⟩ := List.mem_map.mp (List.mem_of_getElem? hx)
    obtain ⟨i, hi, rfl⟩ := List.mem_map.mp ha
    exact hrow i (List.mem_range.mp hi))
  have hD2 : va_D A (((X ++ va_pl L f) ++ [(H.size, .inl (cA, n.toNatClampNeg, .inr (.inr (.inr (.inr (fun i => if i < n.toNatClampNeg then some (H.size + 1 + i) else none))))))]) ++ ((List.range n.toNatClampNeg).map (fun i => H.size + 1 + i)).map (fun a => (a, .inl (cy, z)))) := by
    have hD1 := hD.push (e := .inl (cA, n.toNatClampNeg, .inr (.inr (.inr (.inr (fun i => if i < n.toNatClampNeg then some (H.size + 1 + i) else none)))))) hP rfl (hA _ hS.1)
    generalize hW1 : (X ++ va_pl L f) ++ [(H.size, .inl (cA, n.toNatClampNeg, .inr (.inr (.inr (.inr (fun i => if i < n.toNatClampNeg then some (H.size + 1 + i) else none))))))] = W1 at hD1 hP1 ⊢
    have hle : ∀ (k9 : Nat) (x : Nat × va_E), W1[k9]? = some x → x.1 ≤ H.size := fun k9 x hx => by
      rw [← hW1] at hx
      by_cases hl : k9 < (X ++ va_pl L f).length
      · rw [List.getElem?_append_left hl] at hx
        exact Nat.le_of_lt ((hP k9 x hx).lt)
      · rw [List.getElem?_append_right (by omega)] at hx
        have h0 : k9 - (X ++ va_pl L f).length < 1 := (List.getElem?_eq_some_iff.mp hx).1
        rw [show k9 - (X ++ va_pl L f).length = 0 by omega] at hx
        cases hx
        exact Nat.le_refl _
    have hr : ∀ (k9 : Nat) (x : Nat × va_E), (((List.range n.toNatClampNeg).map (fun i => H.size + 1 + i)).map (fun a => ((a, .inl (cy, z)) : Nat × va_E)))[k9]? = some x → x.1 = H.size + 1 + k9 := fun k9 x hx => by
      rw [List.getElem?_map, List.getElem?_map] at hx
      by_cases h9 : k9 < n.toNatClampNeg
      · rw [List.getElem?_range h9] at hx
        cases hx
        rfl
      · have hn0 : (List.range n.toNatClampNeg)[k9]? = none := List.getElem?_eq_none (by rw [List.length_range]; omega)
        rw [hn0] at hx
        cases hx
    refine ⟨fun i j x y hi hj hxy => ?_, fun k9 x hx => ?_⟩
    · by_cases h1 : i < W1.length <;> by_cases h2 : j < W1.length
      · rw [List.getElem?_append_left h1] at hi
        rw [List.getElem?_append_left h2] at hj
        exact hD1.1 i j x y hi hj hxy
      · rw [List.getElem?_append_left h1] at hi
        rw [List.getElem?_append_right (by omega)] at hj
        have := hle _ _ hi
        have := hr _ _ hj
        omega
      · rw [List.getElem?_append_right (by omega)] at hi
        rw [List.getElem?_append_left h2] at hj
        have := hle _ _ hj
        have := hr _ _ hi
        omega
      · rw [List.getElem?_append_right (by omega)] at hi hj
        have := hr _ _ hi
        have := hr _ _ hj
        omega
    · by_cases h1 : k9 < W1.length
      · rw [List.getElem?_append_left h1] at hx
        exact hD1.2 k9 x hx
      · rw [List.getElem?_append_right (by omega)] at hx
        have := hr _ _ hx
        exact hA _ (by have := hS.1; omega)
  have hAr : ArrOfT s cA (.array ty) := fun N9 z9 => by
    obtain ⟨-, k9, hk9, cm9, hkk9⟩ := (hO 0 0 0).1
    exact ⟨(fun q hq => by cases hq), k9, hk9, cm9, hkk9⟩
  have hK2 : va_K D cl (tys ++ [(cA, .array ty)]) s := ⟨hK.1, fun k9 x hx => by
    by_cases hl : k9 < tys.length
    · rw [List.getElem?_append_left hl] at hx
      exact hK.2 k9 x hx
    · rw [List.getElem?_append_right (by omega)] at hx
      have h0 : k9 - tys.length < 1 := (List.getElem?_eq_some_iff.mp hx).1
      rw [show k9 - tys.length = 0 by omega] at hx
      cases hx
      exact ⟨hAr, fA⟩⟩
  obtain ⟨t, a1, b1⟩ := kk H.size (fun i => H.size + 1 + i) cA F.heap (fun i j _ _ h => by have h9 : H.size + 1 + i = H.size + 1 + j := h; omega) hnl hK2 (by rw [← vr_rows hnm]; exact vr_lay hP2) (by rw [← vr_rows hnm]; exact vr_layD hD2) ⟨by rw [f1]; have := hS.1; omega, fun x h1 h2 => (hold x (Nat.lt_of_lt_of_le h1 hS.1)).trans (hS.2.1 x h1 h2), hS.2.2⟩ F rfl X'
  refine ⟨t, step t ?_, b1⟩
  have e : T.heap.size = H.size := by rw [hT]
  rw [e]
  exact a1
end VGM
/-! ===== END ===== -/

/-! ===== BEGIN exceptions that leave a method, and their catching by the caller (launches without stack traces) ===== -/
section VXA
/-! The laws vx_back, vx_callV, vx_callS, vx_callSW, vx_throw0, vx_throwS follow proofs of the library, with one case more: JvmDerived/Free/Laws.lean (Back.of_free), Shelf42/LK1.lean (callV, callS), Shelf/KitTraced.lean (throwNew0V, throwNewS). -/
/-- where a method has thrown q: the class by its name, the cell, what was written, the world -/
def vx_T (XC : String → State → State → Prop) (st : State) (q : Addr) (t : State) (mc ms : Nat) (free : Addr → Prop) : Prop :=
  ∃ (E : String) (ce : Cell) (L : List Loc), XC E st t ∧ t.heap[q]? = some ce ∧ ce.vm = .none ∧ st.vm.findClass E = some ce.cls ∧ st.WarmedH t.vm ∧ st.sameButNew ({ t with vm := st.vm } : State) L mc ms ∧ ∀ z ∈ L, free z.base
def vx_Q (Qc : Array Value → State → Outcome → State → Prop) (XC : String → State → State → Prop) (mc ms : Nat) (free : Addr → Prop) : Array Value → State → Outcome → State → Prop := fun a st o t =>
  (Qc a st o t ∧ ∃ L, FrameEnd st o t L mc ms ∧ ∀ q ∈ L, free q.base) ∨ ∃ q, o = .threw q ∧ vx_T XC st q t mc ms free
/-- a callee that returns or throws -/
def vx_Met (l : Launch) (y : MethodName) (ws : List Cond) (rm : Room) (Pc : Array Value → State → Prop) (Qc : Array Value → State → Outcome → State → Prop) (XC : String → State → State → Prop) (mc ms : Nat) (free : Addr → Prop) : Prop :=
  MetFree l y (headSpec ws rm) Pc (fun _ _ _ _ _ => True) (vx_Q Qc XC mc ms free)
def vx_Post (XC : String → State → State → Prop) (mc ms : Nat) (free : Addr → Prop) : Pt → Array Value → Addr → Pt → Prop := fun A a q B =>
  ∃ (g : JFrame) (mk : MethodId) (t : State) (L : List Loc) (E : String) (ce : Cell), B.U.heap = t.heap ∧ B.U.vm = t.vm ∧ XC E (A.U.calling g mk a) t ∧ t.heap[q]? = some ce ∧ ce.vm = .none ∧ A.U.vm.findClass E = some ce.cls ∧ B.locs = A.locs ++ L ∧ (∀ z ∈ L, free z.base) ∧ B.cells = A.cells + mc ∧ B.slots = A.slots + ms
def vx_Back (l : Launch) (R : Room) (p : Program) (e : Env) (below : List Frame) (s : State) (sargs : Array Value) (y : MethodName) (len W9 : Nat)
    (Pre : Pt → Array Value → Prop) (Post : Pt → Array Value → Option Value → Pt → Prop) (PostX : Pt → Array Value → Addr → Pt → Prop) : Prop :=
  ∀ (m : MethodId) (meth : Method) (c : Code) (A : Pt) (g : JFrame) (ig : Instr) (mk : MethodId) (a : Array Value),
    Stand p l e R s m sargs below meth c A.U A.locs A.cells A.slots → g.method = m → g.locals.size = c.maxLocals → decode c.code g.pc = .ok (ig, len) →
    2 * g.monitorRoom + (g.stack.map fun v => v.category).sum ≤ W9 → A.U.methodNamed? y = some mk → Pre A a →
    (∃ (v : Option Value) (B : Pt), Stand p l e R s m sargs below meth c B.U B.locs B.cells B.slots ∧ Post A a v B ∧
      Steps p.tables e below (doInvoke e (A.U.setTop g) [] mk a).1 (B.U.setTop { g with pc := g.pc + len, stack := v.toList ++ g.stack })) ∨
    (∃ (q : Addr) (B : Pt), Stand p l e R s m sargs below meth c B.U B.locs B.cells B.slots ∧ PostX A a q B ∧
      Steps p.tables e below (doInvoke e (A.U.setTop g) [] mk a).1 ((B.U.setTop g).pushFrame (.throwing q)))
section Payer
variable {l : Launch} {R : Room} {p : Program} {e : Env} {below : List Frame} {s : State} {sargs : Array Value} {y : MethodName} {len W9 : Nat}
theorem vx_back {ws : List Cond} {rm : Room} {Pc : Array Value → State → Prop} {Qc : Array Value → State → Outcome → State → Prop} {XC : String → State → State → Prop} {mc ms : Nat} {free : Addr → Prop} {bytes : ByteArray} {maxL : Nat} {ret : Option FieldType}
    (hM : vx_Met l y ws rm Pc Qc XC mc ms free) (hblind : FrameBlind Pc) (hrc : rm.cells = mc) (hrs : rm.slots = ms)
    (hframes : rm.frames + 1 ≤ R.frames) (hlocals : W9 + (maxL + 11) + rm.locals ≤ R.locals)
    (hws : ∀ w ∈ ws, ∀ a' U, s.WarmedH U.vm → w.before a' U = true) (hcode : Cond.code y bytes maxL ret ∈ ws) (hinit : ∀ a' U, s.WarmedH U.vm → (Cond.initialized y.cls).before a' U = true) :
    vx_Back l R p e below s sargs y len W9 (PreOf R mc ms Pc) (PostOf Qc mc ms free) (vx_Post XC mc ms free) := by
  intro m meth c A g ig mk a X hg hsize hdg hW hn hp
  have h1 : (headSpec ws rm).pre.before a A.U = true := atoms_intro fun w hw => hws w hw _ _ X.warmed
  have h2 : (Cond.code y bytes maxL ret).before a A.U = true := hws _ hcode _ _ X.warmed
  have h3 : (Cond.initialized y.cls).before a A.U = true := hinit _ _ X.warmed
  have h4 : A.cells + (headSpec ws rm).room.cells ≤ R.cells := by rw [show (headSpec ws rm).room.cells = mc from hrc]; exact hp.1
  have h5 : A.slots + (headSpec ws rm).room.slots ≤ R.slots := by rw [show (headSpec ws rm).room.slots = ms from hrs]; exact hp.2.1
  have hPc : Pc a (A.U.calling g mk a) := hblind _ _ _ _ hp.2.2
  obtain ⟨U, Ls, c0, s0⟩ := A
  dsimp only [Pt.U, Pt.locs, Pt.cells, Pt.slots] at h1 h2 h3 h4 h5 X hn hPc ⊢
  obtain ⟨methY, cY, hmY, hcY, -, hlY, -, -, -, -⟩ := Cond.code_spec hn h2
  obtain ⟨kY, hkY, -⟩ := className_of_methodNamed hn
  have hinitY : kY.init = .initialized := Cond.initialized_spec (findClass_of_methodNamed hn) hkY h3
  have h : At U g.method c below := by rw [hg]; exact X.here
  have hlocals9 : W9 + (maxL + 11) + (headSpec ws rm).room.locals ≤ R.locals := hlocals
  have happ : (headSpec ws rm).appliesLoose y e.platform (U.calling g mk a) = true :=
    Spec.appliesLoose_calling (g := g) h hdg hn hkY hinitY
      (X.room_calling (g := g) (R' := (headSpec ws rm).room) hsize hmY hcY hframes (by rw [hlY]; omega) h4 h5) h1
  obtain ⟨mid, hmid⟩ := h.above
  have hfr : (U.setTop g).frames = (.java g :: mid) ++ below := by rw [State.frames_setTop' g h.top, hmid]; rfl
  obtain ⟨o, s₂, hsteps, -, hend, hq⟩ := Steps.callFree hM p X.admits X.cas X.clock (acts := []) hfr happ hPc trivial
  have hq' : vx_Q Qc XC mc ms free a (U.calling g mk a) o s₂ := hq
  rw [State.frames_setTop' g h.top] at hend
  obtain ⟨g₀, hg0⟩ := Option.isSome_iff_exists.mp h.top
  obtain ⟨r, hr⟩ := State.topJava?_eq_some.mp hg0
  have hr' : (({ U with heap := s₂.heap, slotsUsed := s₂.slotsUsed } : State).setVm s₂.vm).frames = .java g₀ :: r := hr
  rcases hq' with ⟨hqc, L, hfe, hL⟩ | ⟨q, rfl, E, ce, L, hx, hce, hcv, hcl, hW₂, hsm, hL⟩
  · obtain ⟨⟨v, rfl⟩, hW₂, e2, q2, q3, q4, q5, q6⟩ := id hfe
    have e3 : s₂ = ({ (U.calling g mk a).setFrames s₂.frames with heap := s₂.heap, slotsUsed := s₂.slotsUsed } : State).setVm s₂.vm := by
      have : s₂ = ({ s₂ with vm := (U.calling g mk a).vm } : State).setVm s₂.vm := rfl
      rw [e2] at this
      exact this
    obtain ⟨c₂, i₂, len₂, hc₂, hd₂, hf₂⟩ := hend
    have hW' : U.WarmedH s₂.vm := hW₂
    have hcc : c₂ = c := by
      have h1 : s₂.code? g.method = U.code? g.method := by
        rw [State.code?_eq, State.code?_eq, hW'.alike.method?]
      exact Option.some.inj (hc₂.symm.trans (h1.trans h.code))
    subst hcc
    have hlen : len₂ = len := by rw [hdg] at hd₂; cases hd₂; rfl
    subst hlen
    have hs₂ : s₂ = (({ U with heap := s₂.heap, slotsUsed := s₂.slotsUsed } : State).setVm s₂.vm).setTop { g with pc := g.pc + len₂, stack := v.toList ++ g.stack } := by
      refine e3.trans ?_
      rw [hf₂, State.calling_eq h.top, State.setFrames_setFrames, State.setTop_of_frames _ hr', hr]
      rfl
    have hsame : U.sameButNew ({ U with heap := s₂.heap, slotsUsed := s₂.slotsUsed } : State) L mc ms := by
      refine ⟨?_, q2, q3, q4, q5, q6⟩
      obtain ⟨t, ht, -⟩ := State.frames_cons hr
      show ({ U with heap := s₂.heap, slotsUsed := s₂.slotsUsed } : State) = { U.setFrames U.frames with heap := s₂.heap, slotsUsed := s₂.slotsUsed }
      rw [State.setFrames_self ht]
    subst hg
    refine Or.inl ⟨v, ⟨(({ U with heap := s₂.heap, slotsUsed := s₂.slotsUsed } : State).setVm s₂.vm), Ls ++ L, c0 + mc, s0 + ms⟩,
      ⟨X.admits, X.cas, X.clock, X.frames, X.room, X.hears, X.method, X.code, (X.here.setHeapUsed s₂.heap s₂.slotsUsed).setVm hW'.alike, X.tail, State.WarmedH.trans X.warmed hW', X.limits, X.bytes, X.same.trans (hsame.setVm s.vm)⟩,
      ⟨g, mk, s₂, L, rfl, rfl, hqc, rfl, hL, rfl, rfl⟩, ?_⟩
    show Steps p.tables e below _ ((({ U with heap := s₂.heap, slotsUsed := s₂.slotsUsed } : State).setVm s₂.vm).setTop { g with pc := g.pc + len₂, stack := v.toList ++ g.stack })
    rw [← hs₂]
    exact hsteps
  · obtain ⟨e2, q2, q3, q4, q5, q6⟩ := id hsm
    have e3 : s₂ = ({ (U.calling g mk a).setFrames s₂.frames with heap := s₂.heap, slotsUsed := s₂.slotsUsed } : State).setVm s₂.vm := by
      have : s₂ = ({ s₂ with vm := (U.calling g mk a).vm } : State).setVm s₂.vm := rfl
      rw [e2] at this
      exact this
    have hf₂ : s₂.frames = .throwing q :: .java g :: U.frames.tail := hend
    have hW' : U.WarmedH s₂.vm := hW₂
    have hs₂ : s₂ = ((({ U with heap := s₂.heap, slotsUsed := s₂.slotsUsed } : State).setVm s₂.vm).setTop g).pushFrame (.throwing q) := by
      refine e3.trans ?_
      rw [hf₂, State.calling_eq h.top, State.setFrames_setFrames, State.pushFrame, State.frames_setTop _ hr', State.setTop_of_frames _ hr', State.setFrames_setFrames, hr]
      rfl
    have hsame : U.sameButNew ({ U with heap := s₂.heap, slotsUsed := s₂.slotsUsed } : State) L mc ms := by
      refine ⟨?_, q2, q3, q4, q5, q6⟩
      obtain ⟨t, ht, -⟩ := State.frames_cons hr
      show ({ U with heap := s₂.heap, slotsUsed := s₂.slotsUsed } : State) = { U.setFrames U.frames with heap := s₂.heap, slotsUsed := s₂.slotsUsed }
      rw [State.setFrames_self ht]
    subst hg
    refine Or.inr ⟨q, ⟨(({ U with heap := s₂.heap, slotsUsed := s₂.slotsUsed } : State).setVm s₂.vm), Ls ++ L, c0 + mc, s0 + ms⟩,
      ⟨X.admits, X.cas, X.clock, X.frames, X.room, X.hears, X.method, X.code, (X.here.setHeapUsed s₂.heap s₂.slotsUsed).setVm hW'.alike, X.tail, State.WarmedH.trans X.warmed hW', X.limits, X.bytes, X.same.trans (hsame.setVm s.vm)⟩,
      ⟨g, mk, s₂, L, E, ce, rfl, rfl, hx, hce, hcv, hcl, rfl, hL, rfl, rfl⟩, ?_⟩
    show Steps p.tables e below _ (((({ U with heap := s₂.heap, slotsUsed := s₂.slotsUsed } : State).setVm s₂.vm).setTop g).pushFrame (.throwing q))
    rw [← hs₂]
    exact hsteps
end Payer
section Calls
variable {p : Program} {l : Launch} {e : Env} {R : Room} {s : State} {m : MethodId} {args : Array Value} {below : List Frame} {meth : Method} {c : Code} {T : State} {locs : List Loc} {cells slots : Nat}
theorem vx_callV (X : Stand p l e R s m args below meth c T locs cells slots) (hexec : p.tables.exec = Jvm.exec) {own C : String} {index : Nat} {y : MethodName} {bytes : ByteArray} {maxL : Nat} {ret : Option FieldType}
    (hown : s.vm.findClass own = some m.cls) (hlink : (Cond.methodLink own index y).before args s = true) (hinst : (Cond.instanceMethod y).before args s = true) (hsel : (Cond.selects C y y).before args s = true)
    (hcode : (Cond.code y bytes maxL ret).before args s = true) (hy : y.cls ≠ "java/lang/invoke/MethodHandle" ∧ y.cls ≠ "java/lang/invoke/VarHandle")
    {W9 : Nat} {Pre : Pt → Array Value → Prop} {Post : Pt → Array Value → Option Value → Pt → Prop} {PostX : Pt → Array Value → Addr → Pt → Prop} (hK : vx_Back l R p e below s args y 3 W9 Pre Post PostX)
    {b : Addr} {cellB : Cell} (hcell : T.heap[b]? = some cellB) (hobj : cellB.vm.isStatics = false) (hcls : s.vm.findClass C = some cellB.cls)
    {g : JFrame} (hg : g.method = m) (hsize : g.locals.size = c.maxLocals) {argsL rest : List Value} (hlen : ∀ sig, parseMethodDescriptor y.desc = some sig → argsL.length = sig.parameters.length)
    (hstack : g.stack = argsL.reverse ++ .ref b :: rest) (hW : 2 * g.monitorRoom + (rest.map fun v => v.category).sum ≤ W9) (hdg : decode c.code g.pc = .ok (.invokevirtual index, 3))
    (hpre : ∀ vm₁, s.WarmedH vm₁ → Pre ⟨T.setVm vm₁, locs, cells, slots⟩ (Value.ref b :: argsL).toArray) :
    (∃ (v : Option Value) (vm₁ : Vm) (B : Pt), s.WarmedH vm₁ ∧ Stand p l e R s m args below meth c B.U B.locs B.cells B.slots ∧ Post ⟨T.setVm vm₁, locs, cells, slots⟩ (Value.ref b :: argsL).toArray v B ∧
      ∀ target, Steps p.tables e below (B.U.setTop { g with pc := g.pc + 3, stack := v.toList ++ rest }) target → Steps p.tables e below (T.setTop g) target) ∨
    (∃ (q : Addr) (vm₁ : Vm) (B : Pt), s.WarmedH vm₁ ∧ Stand p l e R s m args below meth c B.U B.locs B.cells B.slots ∧ PostX ⟨T.setVm vm₁, locs, cells, slots⟩ (Value.ref b :: argsL).toArray q B ∧
      Steps p.tables e below (T.setTop g) ((B.U.setTop { g with stack := rest }).pushFrame (.throwing q))) := by
  obtain ⟨mk, methM, hnamed, hmethM, hstM, habM⟩ := Cond.instanceMethod_spec hinst
  obtain ⟨methM', cM, hmethM', -, -, -, -, -, -, hsigM⟩ := Cond.code_spec hnamed hcode
  cases hmethM.symm.trans hmethM'
  obtain ⟨c2, r2, m2, q1, q2, q3, q4, kP, hkP, hkPi⟩ := Cond.selects_spec hsel
  cases hcls.symm.trans q1
  cases (State.methodFound?_of_named hnamed hy).symm.trans q2
  cases hnamed.symm.trans q3
  have hselP : selectMethod e.platform s.vm cellB.cls mk = .method mk := by rw [Launch.admits_selectMethod X.admits]; exact q4
  obtain ⟨vm₁, X₁, hstep₁⟩ := X.invokevirtual hexec hown hlink hnamed hmethM hstM hkP hkPi hy (a := b) (cell := cellB) hcell
    (fun z h => by rw [h] at hobj; cases hobj) hselP hmethM habM hkP hkPi (g := g) hg (argsL := argsL) (rest := rest) (hlen _ hsigM) hstack hdg
  rcases hK m meth c ⟨T.setVm vm₁, locs, cells, slots⟩ { g with stack := rest } (.invokevirtual index) mk (Value.ref b :: argsL).toArray X₁ hg hsize hdg hW (X₁.named hnamed) (hpre vm₁ X₁.warmed) with ⟨v, B, X', hpost, hsteps⟩ | ⟨q, B, X', hpost, hsteps⟩
  · exact Or.inl ⟨v, vm₁, B, X₁.warmed, X', hpost, fun target h => hstep₁ _ fun acts => by rw [doInvoke_state]; exact hsteps.trans h⟩
  · exact Or.inr ⟨q, vm₁, B, X₁.warmed, X', hpost, hstep₁ _ fun acts => by rw [doInvoke_state]; exact hsteps⟩
theorem vx_callS (X : Stand p l e R s m args below meth c T locs cells slots) (hexec : p.tables.exec = Jvm.exec) {own : String} {index : Nat} {y : MethodName} {bytes : ByteArray} {maxL : Nat} {ret : Option FieldType}
    (hown : s.vm.findClass own = some m.cls) (hlink : (Cond.methodLink own index y).before args s = true) (hstat : (Cond.static y).before args s = true) (hinit : (Cond.initialized y.cls).before args s = true)
    (hcode : (Cond.code y bytes maxL ret).before args s = true) (hy : y.cls ≠ "java/lang/invoke/MethodHandle" ∧ y.cls ≠ "java/lang/invoke/VarHandle")
    {W9 : Nat} {Pre : Pt → Array Value → Prop} {Post : Pt → Array Value → Option Value → Pt → Prop} {PostX : Pt → Array Value → Addr → Pt → Prop} (hK : vx_Back l R p e below s args y 3 W9 Pre Post PostX)
    {g : JFrame} (hg : g.method = m) (hsize : g.locals.size = c.maxLocals) {argsL rest : List Value} (hlen : ∀ sig, parseMethodDescriptor y.desc = some sig → argsL.length = sig.parameters.length)
    (hstack : g.stack = argsL.reverse ++ rest) (hW : 2 * g.monitorRoom + (rest.map fun v => v.category).sum ≤ W9) (hdg : decode c.code g.pc = .ok (.invokestatic index, 3))
    (hpre : ∀ vm₁, s.WarmedH vm₁ → Pre ⟨T.setVm vm₁, locs, cells, slots⟩ argsL.toArray) :
    (∃ (v : Option Value) (vm₁ : Vm) (B : Pt), s.WarmedH vm₁ ∧ Stand p l e R s m args below meth c B.U B.locs B.cells B.slots ∧ Post ⟨T.setVm vm₁, locs, cells, slots⟩ argsL.toArray v B ∧
      ∀ target, Steps p.tables e below (B.U.setTop { g with pc := g.pc + 3, stack := v.toList ++ rest }) target → Steps p.tables e below (T.setTop g) target) ∨
    (∃ (q : Addr) (vm₁ : Vm) (B : Pt), s.WarmedH vm₁ ∧ Stand p l e R s m args below meth c B.U B.locs B.cells B.slots ∧ PostX ⟨T.setVm vm₁, locs, cells, slots⟩ argsL.toArray q B ∧
      Steps p.tables e below (T.setTop g) ((B.U.setTop { g with stack := rest }).pushFrame (.throwing q))) := by
  obtain ⟨mk, hnamed⟩ := Cond.code_named hcode
  obtain ⟨methM, cM, hmethM, -, -, -, -, -, -, hsigM⟩ := Cond.code_spec hnamed hcode
  have hstatic : methM.isStatic = true := Cond.static_spec hnamed hmethM hstat
  obtain ⟨kP, hkP, -⟩ := className_of_methodNamed hnamed
  have hinitP : kP.init = .initialized := Cond.initialized_spec (findClass_of_methodNamed hnamed) hkP hinit
  obtain ⟨vm₁, X₁, hstep₁⟩ := X.invokestatic hexec hown hlink hnamed hmethM hstatic hkP hinitP hy (g := g) hg (argsL := argsL) (rest := rest) (hlen _ hsigM) hstack hdg
  rcases hK m meth c ⟨T.setVm vm₁, locs, cells, slots⟩ { g with stack := rest } (.invokestatic index) mk argsL.toArray X₁ hg hsize hdg hW (X₁.named hnamed) (hpre vm₁ X₁.warmed) with ⟨v, B, X', hpost, hsteps⟩ | ⟨q, B, X', hpost, hsteps⟩
  · exact Or.inl ⟨v, vm₁, B, X₁.warmed, X', hpost, fun target h => hstep₁ _ fun acts => by rw [doInvoke_state]; exact hsteps.trans h⟩
  · exact Or.inr ⟨q, vm₁, B, X₁.warmed, X', hpost, hstep₁ _ fun acts => by rw [doInvoke_state]; exact hsteps⟩
end Calls
theorem vx_cls {s : State} {T : State} {vm₁ : Vm} {E : String} {k : ClassId} (hW : s.WarmedH vm₁) (h : (T.setVm vm₁).vm.findClass E = some k) : s.vm.findClass E = some k := by
  have h1 : vm₁.findClass E = some k := h
  rw [hW.alike.findClass] at h1
  exact h1
/-- the method's frame g, with q thrown over it -/
def vx_W (p : Program) (l : Launch) (e : Env) (R : Room) (s : State) (m : MethodId) (args : Array Value) (below : List Frame) (meth : Method) (c : Code) (H : Heap) (locs : List Loc) (cells slots : Nat) (Q : State → Prop) (g : JFrame) (q : Addr) : Prop :=
  ∀ T : State, T.heap = H → Stand p l e R s m args below meth c T locs cells slots → ∃ t, Steps p.tables e below ((T.setTop g).pushFrame (.throwing q)) t ∧ Q t
def vx_Run (p : Program) (l : Launch) (e : Env) (R : Room) (s : State) (m : MethodId) (args : Array Value) (below : List Frame) (meth : Method) (c : Code) (H : Heap) (locs : List Loc) (cells slots mc ms : Nat) (g : JFrame) (rest : List Value) (Qa : State → Outcome → State → Prop) (XC : String → State → State → Prop) (free : Addr → Prop) : Prop :=
  ∀ T : State, T.heap = H → Stand p l e R s m args below meth c T locs cells slots →
    (∃ (v : Option Value) (st₀ t T' : State) (L : List Loc), st₀.heap = H ∧ Stand p l e R s m args below meth c T' (locs ++ L) (cells + mc) (slots + ms) ∧ (∀ q ∈ L, free q.base) ∧ T'.heap = t.heap ∧ T'.vm = t.vm ∧ Qa st₀ (.returned v) t ∧
      Goes p e below T g T' { g with pc := g.pc + 3, stack := v.toList ++ rest }) ∨
    (∃ (q : Addr) (st₀ t T' : State) (L : List Loc) (E : String) (ce : Cell), st₀.heap = H ∧ Stand p l e R s m args below meth c T' (locs ++ L) (cells + mc) (slots + ms) ∧ (∀ z ∈ L, free z.base) ∧ T'.heap = t.heap ∧ T'.vm = t.vm ∧ XC E st₀ t ∧ t.heap[q]? = some ce ∧ ce.vm = .none ∧ s.vm.findClass E = some ce.cls ∧
      Steps p.tables e below (T.setTop g) ((T'.setTop { g with stack := rest }).pushFrame (.throwing q)))
def vx_X {S : Type} (px : S → Prop) (B : String → S → State → Prop) (A : Nat → Prop) : String → State → State → Prop := fun E st t => ∃ u : S, px u ∧ B E u t ∧ va_F A st t
section Runs
variable {p : Program} {l : Launch} {e : Env} {R : Room} {s : State} {m : MethodId} {args : Array Value} {below : List Frame} {meth : Method} {c : Code} {H : Heap} {locs : List Loc} {cells slots : Nat}
variable {y : MethodName} {bytes cc : ByteArray} {maxL nL mc ms n index : Nat} {ret : Option FieldType} {ws : List Cond} {rm : Room} {Pc : Array Value → State → Prop} {Qc : Array Value → State → Outcome → State → Prop} {XC : String → State → State → Prop} {free : Addr → Prop} {Ts : List Cond} {own C : String} {b : Addr} {As rest : List Value} {g : JFrame}
theorem vx_callBack (cb : CallB R s args own index y bytes maxL ret ws rm mc ms n) (hM : vx_Met l y ws rm Pc Qc XC mc ms free) (hbl : FrameBlind Pc) : vx_Back l R p e below s args y 3 8 (PreOf R mc ms Pc) (PostOf Qc mc ms free) (vx_Post XC mc ms free) := by
  obtain ⟨hrc, hrs, hfr, hlo, hws, hcw, -, hini, -⟩ := cb
  exact vx_back (bytes := bytes) (maxL := maxL) (ret := ret) hM hbl hrc hrs hfr hlo hws hcw (fun a' U hW => word_at hW (Or.inl (by first | rfl | simp [Cond.onTables, Cond.keeps, Cond.steady])) hini)
theorem vx_runV (S : CallFix p m c cc nL s args Ts own) (hM : vx_Met l y ws rm Pc Qc XC mc ms free) (cw : CallW R s args own C index y bytes maxL ret ws rm mc ms n) (hp : PreV s H C b Pc As)
    (hg : g.method = m) (hn : As.length = n) (hsize : g.locals.size = nL) (hstack : g.stack = As.reverse ++ .ref b :: rest) (hW : 2 * g.monitorRoom + (rest.map fun v => v.category).sum ≤ 8) (hdg : decode cc g.pc = .ok (.invokevirtual index, 3)) (hf : cells + mc ≤ R.cells ∧ slots + ms ≤ R.slots) :
    vx_Run p l e R s m args below meth c H locs cells slots mc ms g rest (Qc (Value.ref b :: As).toArray) XC free := by
  have hK : vx_Back l R p e below s args y 3 8 (PreOf R mc ms Pc) (PostOf Qc mc ms free) (vx_Post XC mc ms free) := vx_callBack cw.1 hM hp.1
  obtain ⟨⟨-, -, -, -, -, -, hcode, -, hy, hlen, hl⟩, hin, hse⟩ := cw
  obtain ⟨hx, hb, hml, ho, -⟩ := S
  obtain ⟨-, ⟨cellB, hcB, hoB, hclB⟩, hPc⟩ := hp
  intro T hT X
  rcases vx_callV X hx (C := C) (bytes := bytes) (maxL := maxL) (ret := ret) ho hl hin hse hcode hy hK (by rw [hT]; exact hcB) hoB hclB hg (hsize.trans hml.symm) (argsL := As) (rest := rest) (fun sig h => hn.trans (hlen sig h)) hstack hW (by rw [hb]; exact hdg)
    (fun vm₁ hW₁ => ⟨hf.1, hf.2, hPc (T.setVm vm₁) hT hW₁⟩) with ⟨v, vm₁, ⟨U', l2, c2, s2⟩, hW₁, X', ⟨g', mk, t, L, e1, e2, hq, h1, hL, h2, h3⟩, st⟩ | ⟨q, vm₁, ⟨U', l2, c2, s2⟩, hW₁, X', ⟨g', mk, t, L, E, ce, e1, e2, hq, hce, hcv, hcl, h1, hL, h2, h3⟩, st⟩
  · dsimp only [Pt.U, Pt.locs, Pt.cells, Pt.slots] at X' e1 e2 h1 h2 h3 st
    subst h1; subst h2; subst h3
    exact Or.inl ⟨v, (T.setVm vm₁).calling g' mk (Value.ref b :: As).toArray, t, U', L, hT, X', hL, e1, e2, hq, st⟩
  · dsimp only [Pt.U, Pt.locs, Pt.cells, Pt.slots] at X' e1 e2 h1 h2 h3 st hcl
    subst h1; subst h2; subst h3
    exact Or.inr ⟨q, (T.setVm vm₁).calling g' mk (Value.ref b :: As).toArray, t, U', L, E, ce, hT, X', hL, e1, e2, hq, hce, hcv, vx_cls hW₁ hcl, st⟩
theorem vx_runS (S : CallFix p m c cc nL s args Ts own) (hM : vx_Met l y ws rm Pc Qc XC mc ms free) (cw : CallB R s args own index y bytes maxL ret ws rm mc ms n ∧ (Cond.static y).before args s = true) (hp : PreS s H Pc As)
    (hg : g.method = m) (hn : As.length = n) (hsize : g.locals.size = nL) (hstack : g.stack = As.reverse ++ rest) (hW : 2 * g.monitorRoom + (rest.map fun v => v.category).sum ≤ 8) (hdg : decode cc g.pc = .ok (.invokestatic index, 3)) (hf : cells + mc ≤ R.cells ∧ slots + ms ≤ R.slots) :
    vx_Run p l e R s m args below meth c H locs cells slots mc ms g rest (Qc As.toArray) XC free := by
  have hK : vx_Back l R p e below s args y 3 8 (PreOf R mc ms Pc) (PostOf Qc mc ms free) (vx_Post XC mc ms free) := vx_callBack cw.1 hM hp.1
  obtain ⟨⟨-, -, -, -, -, -, hcode, hini, hy, hlen, hl⟩, hstt⟩ := cw
  obtain ⟨hx, hb, hml, ho, -⟩ := S
  intro T hT X
  rcases vx_callS X hx (bytes := bytes) (maxL := maxL) (ret := ret) ho hl hstt hini hcode hy hK hg (hsize.trans hml.symm) (argsL := As) (rest := rest) (fun sig h => hn.trans (hlen sig h)) hstack hW (by rw [hb]; exact hdg)
    (fun vm₁ hW₁ => ⟨hf.1, hf.2, hp.2 (T.setVm vm₁) hT hW₁⟩) with ⟨v, vm₁, ⟨U', l2, c2, s2⟩, hW₁, X', ⟨g', mk, t, L, e1, e2, hq, h1, hL, h2, h3⟩, st⟩ | ⟨q, vm₁, ⟨U', l2, c2, s2⟩, hW₁, X', ⟨g', mk, t, L, E, ce, e1, e2, hq, hce, hcv, hcl, h1, hL, h2, h3⟩, st⟩
  · dsimp only [Pt.U, Pt.locs, Pt.cells, Pt.slots] at X' e1 e2 h1 h2 h3 st
    subst h1; subst h2; subst h3
    exact Or.inl ⟨v, (T.setVm vm₁).calling g' mk As.toArray, t, U', L, hT, X', hL, e1, e2, hq, st⟩
  · dsimp only [Pt.U, Pt.locs, Pt.cells, Pt.slots] at X' e1 e2 h1 h2 h3 st hcl
    subst h1; subst h2; subst h3
    exact Or.inr ⟨q, (T.setVm vm₁).calling g' mk As.toArray, t, U', L, E, ce, hT, X', hL, e1, e2, hq, hce, hcv, vx_cls hW₁ hcl, st⟩
end Runs
section Rows
variable {p : Program} {l : Launch} {e : Env} {R : Room} {s : State} {m : MethodId} {args : Array Value} {below : List Frame} {meth : Method} {c : Code} {H : Heap} {locs : List Loc} {cells slots : Nat} {Q : State → Prop}
variable {mc ms : Nat} {free : Addr → Prop} {A0 A1 : Nat → Prop} {H0 : Heap} {a : Array Value} {pc : Nat} {ls : Array Slot} {st0 rest : List Value}
theorem vx_keep {st₀ t T' : State} {L : List Loc} (h0 : st₀.heap = H) (e1 : T'.heap = t.heap) (hS : va_S A0 H0 H locs) (hA : ∀ q, q < H.size → A1 q → A0 q) (hf : ∀ q, free q → A0 q) (hL : ∀ q ∈ L, free q.base) (hF : va_F A1 st₀ t) :
    H.size ≤ T'.heap.size ∧ (∀ q : Nat, q < H.size → ¬ A1 q → T'.heap[q]? = H[q]?) ∧ va_S A0 H0 T'.heap (locs ++ L) := by
  obtain ⟨hz, hk⟩ := hF
  rw [h0] at hz hk
  exact ⟨by rw [e1]; exact hz, fun q h1 h2 => by rw [e1]; exact hk q h1 h2,
    ⟨Nat.le_trans hS.1 (by rw [e1]; exact hz), fun q h1 h2 => by rw [e1, hk q (Nat.lt_of_lt_of_le h1 hS.1) (fun z => h2 (hA q (Nat.lt_of_lt_of_le h1 hS.1) z))]; exact hS.2.1 q h1 h2, fun q hq => by
      rcases List.mem_append.mp hq with h | h
      · exact hS.2.2 q h
      · exact hf _ (hL q h)⟩⟩
theorem vx_calli {S SX : Type} {post : Int32 → S → Prop} {px : SX → Prop} {B : S → State → Prop} {BX : String → SX → State → Prop} {AX : Nat → Prop} (hr : vx_Run p l e R s m args below meth c H locs cells slots mc ms (F0 m pc ls st0) rest (va_Qi post B A1 a) (vx_X px BX AX) free) (hS : va_S A0 H0 H locs) (hA : ∀ q, q < H.size → A1 q → A0 q) (hf : ∀ q, free q → A0 q) (hAX : ∀ q, q < H.size → AX q → A0 q)
    (kx : ∀ (E : String) (ce : Cell) (q9 : Addr) (u : SX) (t : State) (H1 : Heap) (locs1 : List Loc), t.heap = H1 → s.vm.Alike t.vm → px u → BX E u t → H.size ≤ H1.size → (∀ q : Nat, q < H.size → ¬ AX q → H1[q]? = H[q]?) → va_S A0 H0 H1 locs1 → H1[q9]? = some ce → ce.vm = .none → s.vm.findClass E = some ce.cls → vx_W p l e R s m args below meth c H1 locs1 (cells + mc) (slots + ms) Q (F0 m pc ls rest) q9)
    (kk : ∀ (r : Int32) (u : S) (t : State) (H1 : Heap) (locs1 : List Loc), t.heap = H1 → s.vm.Alike t.vm → post r u → B u t → H.size ≤ H1.size → (∀ q : Nat, q < H.size → ¬ A1 q → H1[q]? = H[q]?) → va_S A0 H0 H1 locs1 → W p l e R s m args below meth c H1 locs1 (cells + mc) (slots + ms) Q (F0 m (pc + 3) ls (.int r :: rest))) : W p l e R s m args below meth c H locs cells slots Q (F0 m pc ls st0) := by
  intro T hT X
  rcases hr T hT X with ⟨v, st₀, t, T', L, h0, X', hL, e1, e2, ⟨⟨r, u, hv, hp, hb⟩, hF⟩, st⟩ | ⟨q, st₀, t, T', L, E, ce, h0, X', hL, e1, e2, ⟨u, hp, hb, hF⟩, hce, hcv, hcl, st⟩
  · cases hv
    obtain ⟨k1, k2, k3⟩ := vx_keep h0 e1 hS hA hf hL hF
    obtain ⟨t2, a1, b1⟩ := kk r u t T'.heap (locs ++ L) e1.symm (by rw [← e2]; exact X'.warmed.alike) hp hb k1 k2 k3 T' rfl X'
    exact ⟨t2, st t2 a1, b1⟩
  · obtain ⟨k1, k2, k3⟩ := vx_keep h0 e1 hS hAX hf hL hF
    obtain ⟨t2, a1, b1⟩ := kx E ce q u t T'.heap (locs ++ L) e1.symm (by rw [← e2]; exact X'.warmed.alike) hp hb k1 k2 k3 (by rw [e1]; exact hce) hcv hcl T' rfl X'
    exact ⟨t2, st.trans a1, b1⟩
theorem vx_calll {S SX : Type} {post : Int64 → S → Prop} {px : SX → Prop} {B : S → State → Prop} {BX : String → SX → State → Prop} {AX : Nat → Prop} (hr : vx_Run p l e R s m args below meth c H locs cells slots mc ms (F0 m pc ls st0) rest (va_Ql post B A1 a) (vx_X px BX AX) free) (hS : va_S A0 H0 H locs) (hA : ∀ q, q < H.size → A1 q → A0 q) (hf : ∀ q, free q → A0 q) (hAX : ∀ q, q < H.size → AX q → A0 q)
    (kx : ∀ (E : String) (ce : Cell) (q9 : Addr) (u : SX) (t : State) (H1 : Heap) (locs1 : List Loc), t.heap = H1 → s.vm.Alike t.vm → px u → BX E u t → H.size ≤ H1.size → (∀ q : Nat, q < H.size → ¬ AX q → H1[q]? = H[q]?) → va_S A0 H0 H1 locs1 → H1[q9]? = some ce → ce.vm = .none → s.vm.findClass E = some ce.cls → vx_W p l e R s m args below meth c H1 locs1 (cells + mc) (slots + ms) Q (F0 m pc ls rest) q9)
    (kk : ∀ (r : Int64) (u : S) (t : State) (H1 : Heap) (locs1 : List Loc), t.heap = H1 → s.vm.Alike t.vm → post r u → B u t → H.size ≤ H1.size → (∀ q : Nat, q < H.size → ¬ A1 q → H1[q]? = H[q]?) → va_S A0 H0 H1 locs1 → W p l e R s m args below meth c H1 locs1 (cells + mc) (slots + ms) Q (F0 m (pc + 3) ls (.long r :: rest))) : W p l e R s m args below meth c H locs cells slots Q (F0 m pc ls st0) := by
  intro T hT X
  rcases hr T hT X with ⟨v, st₀, t, T', L, h0, X', hL, e1, e2, ⟨⟨r, u, hv, hp, hb⟩, hF⟩, st⟩ | ⟨q, st₀, t, T', L, E, ce, h0, X', hL, e1, e2, ⟨u, hp, hb, hF⟩, hce, hcv, hcl, st⟩
  · cases hv
    obtain ⟨k1, k2, k3⟩ := vx_keep h0 e1 hS hA hf hL hF
    obtain ⟨t2, a1, b1⟩ := kk r u t T'.heap (locs ++ L) e1.symm (by rw [← e2]; exact X'.warmed.alike) hp hb k1 k2 k3 T' rfl X'
    exact ⟨t2, st t2 a1, b1⟩
  · obtain ⟨k1, k2, k3⟩ := vx_keep h0 e1 hS hAX hf hL hF
    obtain ⟨t2, a1, b1⟩ := kx E ce q u t T'.heap (locs ++ L) e1.symm (by rw [← e2]; exact X'.warmed.alike) hp hb k1 k2 k3 (by rw [e1]; exact hce) hcv hcl T' rfl X'
    exact ⟨t2, st.trans a1, b1⟩
theorem vx_callf {S SX : Type} {post : UInt32 → S → Prop} {px : SX → Prop} {B : S → State → Prop} {BX : String → SX → State → Prop} {AX : Nat → Prop} (hr : vx_Run p l e R s m args below meth c H locs cells slots mc ms (F0 m pc ls st0) rest (va_Qf post B A1 a) (vx_X px BX AX) free) (hS : va_S A0 H0 H locs) (hA : ∀ q, q < H.size → A1 q → A0 q) (hf : ∀ q, free q → A0 q) (hAX : ∀ q, q < H.size → AX q → A0 q)
    (kx : ∀ (E : String) (ce : Cell) (q9 : Addr) (u : SX) (t : State) (H1 : Heap) (locs1 : List Loc), t.heap = H1 → s.vm.Alike t.vm → px u → BX E u t → H.size ≤ H1.size → (∀ q : Nat, q < H.size → ¬ AX q → H1[q]? = H[q]?) → va_S A0 H0 H1 locs1 → H1[q9]? = some ce → ce.vm = .none → s.vm.findClass E = some ce.cls → vx_W p l e R s m args below meth c H1 locs1 (cells + mc) (slots + ms) Q (F0 m pc ls rest) q9)
    (kk : ∀ (r : UInt32) (u : S) (t : State) (H1 : Heap) (locs1 : List Loc), t.heap = H1 → s.vm.Alike t.vm → post r u → B u t → H.size ≤ H1.size → (∀ q : Nat, q < H.size → ¬ A1 q → H1[q]? = H[q]?) → va_S A0 H0 H1 locs1 → W p l e R s m args below meth c H1 locs1 (cells + mc) (slots + ms) Q (F0 m (pc + 3) ls (.float r :: rest))) : W p l e R s m args below meth c H locs cells slots Q (F0 m pc ls st0) := by
  intro T hT X
  rcases hr T hT X with ⟨v, st₀, t, T', L, h0, X', hL, e1, e2, ⟨⟨r, u, hv, hp, hb⟩, hF⟩, st⟩ | ⟨q, st₀, t, T', L, E, ce, h0, X', hL, e1, e2, ⟨u, hp, hb, hF⟩, hce, hcv, hcl, st⟩
  · cases hv
    obtain ⟨k1, k2, k3⟩ := vx_keep h0 e1 hS hA hf hL hF
    obtain ⟨t2, a1, b1⟩ := kk r u t T'.heap (locs ++ L) e1.symm (by rw [← e2]; exact X'.warmed.alike) hp hb k1 k2 k3 T' rfl X'
    exact ⟨t2, st t2 a1, b1⟩
  · obtain ⟨k1, k2, k3⟩ := vx_keep h0 e1 hS hAX hf hL hF
    obtain ⟨t2, a1, b1⟩ := kx E ce q u t T'.heap (locs ++ L) e1.symm (by rw [← e2]; exact X'.warmed.alike) hp hb k1 k2 k3 (by rw [e1]; exact hce) hcv hcl T' rfl X'
    exact ⟨t2, st.trans a1, b1⟩
theorem vx_calld {S SX : Type} {post : UInt64 → S → Prop} {px : SX → Prop} {B : S → State → Prop} {BX : String → SX → State → Prop} {AX : Nat → Prop} (hr : vx_Run p l e R s m args below meth c H locs cells slots mc ms (F0 m pc ls st0) rest (va_Qd post B A1 a) (vx_X px BX AX) free) (hS : va_S A0 H0 H locs) (hA : ∀ q, q < H.size → A1 q → A0 q) (hf : ∀ q, free q → A0 q) (hAX : ∀ q, q < H.size → AX q → A0 q)
    (kx : ∀ (E : String) (ce : Cell) (q9 : Addr) (u : SX) (t : State) (H1 : Heap) (locs1 : List Loc), t.heap = H1 → s.vm.Alike t.vm → px u → BX E u t → H.size ≤ H1.size → (∀ q : Nat, q < H.size → ¬ AX q → H1[q]? = H[q]?) → va_S A0 H0 H1 locs1 → H1[q9]? = some ce → ce.vm = .none → s.vm.findClass E = some ce.cls → vx_W p l e R s m args below meth c H1 locs1 (cells + mc) (slots + ms) Q (F0 m pc ls rest) q9)
    (kk : ∀ (r : UInt64) (u : S) (t : State) (H1 : Heap) (locs1 : List Loc), t.heap = H1 → s.vm.Alike t.vm → post r u → B u t → H.size ≤ H1.size → (∀ q : Nat, q < H.size → ¬ A1 q → H1[q]? = H[q]?) → va_S A0 H0 H1 locs1 → W p l e R s m args below meth c H1 locs1 (cells + mc) (slots + ms) Q (F0 m (pc + 3) ls (.double r :: rest))) : W p l e R s m args below meth c H locs cells slots Q (F0 m pc ls st0) := by
  intro T hT X
  rcases hr T hT X with ⟨v, st₀, t, T', L, h0, X', hL, e1, e2, ⟨⟨r, u, hv, hp, hb⟩, hF⟩, st⟩ | ⟨q, st₀, t, T', L, E, ce, h0, X', hL, e1, e2, ⟨u, hp, hb, hF⟩, hce, hcv, hcl, st⟩
  · cases hv
    obtain ⟨k1, k2, k3⟩ := vx_keep h0 e1 hS hA hf hL hF
    obtain ⟨t2, a1, b1⟩ := kk r u t T'.heap (locs ++ L) e1.symm (by rw [← e2]; exact X'.warmed.alike) hp hb k1 k2 k3 T' rfl X'
    exact ⟨t2, st t2 a1, b1⟩
  · obtain ⟨k1, k2, k3⟩ := vx_keep h0 e1 hS hAX hf hL hF
    obtain ⟨t2, a1, b1⟩ := kx E ce q u t T'.heap (locs ++ L) e1.symm (by rw [← e2]; exact X'.warmed.alike) hp hb k1 k2 k3 (by rw [e1]; exact hce) hcv hcl T' rfl X'
    exact ⟨t2, st.trans a1, b1⟩
theorem vx_callv {S SX : Type} {post : S → Prop} {px : SX → Prop} {B : S → State → Prop} {BX : String → SX → State → Prop} {AX : Nat → Prop} (hr : vx_Run p l e R s m args below meth c H locs cells slots mc ms (F0 m pc ls st0) rest (va_Qv post B A1 a) (vx_X px BX AX) free) (hS : va_S A0 H0 H locs) (hA : ∀ q, q < H.size → A1 q → A0 q) (hf : ∀ q, free q → A0 q) (hAX : ∀ q, q < H.size → AX q → A0 q)
    (kx : ∀ (E : String) (ce : Cell) (q9 : Addr) (u : SX) (t : State) (H1 : Heap) (locs1 : List Loc), t.heap = H1 → s.vm.Alike t.vm → px u → BX E u t → H.size ≤ H1.size → (∀ q : Nat, q < H.size → ¬ AX q → H1[q]? = H[q]?) → va_S A0 H0 H1 locs1 → H1[q9]? = some ce → ce.vm = .none → s.vm.findClass E = some ce.cls → vx_W p l e R s m args below meth c H1 locs1 (cells + mc) (slots + ms) Q (F0 m pc ls rest) q9)
    (kk : ∀ (u : S) (t : State) (H1 : Heap) (locs1 : List Loc), t.heap = H1 → s.vm.Alike t.vm → post u → B u t → H.size ≤ H1.size → (∀ q : Nat, q < H.size → ¬ A1 q → H1[q]? = H[q]?) → va_S A0 H0 H1 locs1 → W p l e R s m args below meth c H1 locs1 (cells + mc) (slots + ms) Q (F0 m (pc + 3) ls (rest))) : W p l e R s m args below meth c H locs cells slots Q (F0 m pc ls st0) := by
  intro T hT X
  rcases hr T hT X with ⟨v, st₀, t, T', L, h0, X', hL, e1, e2, ⟨⟨u, hv, hp, hb⟩, hF⟩, st⟩ | ⟨q, st₀, t, T', L, E, ce, h0, X', hL, e1, e2, ⟨u, hp, hb, hF⟩, hce, hcv, hcl, st⟩
  · cases hv
    obtain ⟨k1, k2, k3⟩ := vx_keep h0 e1 hS hA hf hL hF
    obtain ⟨t2, a1, b1⟩ := kk u t T'.heap (locs ++ L) e1.symm (by rw [← e2]; exact X'.warmed.alike) hp hb k1 k2 k3 T' rfl X'
    exact ⟨t2, st t2 a1, b1⟩
  · obtain ⟨k1, k2, k3⟩ := vx_keep h0 e1 hS hAX hf hL hF
    obtain ⟨t2, a1, b1⟩ := kx E ce q u t T'.heap (locs ++ L) e1.symm (by rw [← e2]; exact X'.warmed.alike) hp hb k1 k2 k3 (by rw [e1]; exact hce) hcv hcl T' rfl X'
    exact ⟨t2, st.trans a1, b1⟩
/-- caught by the row x of this method's table; the rows ahead don't take it -/
theorem vx_catch {own name : String} {E : String} {ce : Cell} {q : Addr} (hown : s.vm.findClass own = some m.cls) (pre : List ExceptionTableEntry) (x : ExceptionTableEntry) (suf : List ExceptionTableEntry) (hsplit : c.exceptionTable.toList = pre ++ x :: suf)
    (hpass : ∀ z ∈ pre, covers z pc = false ∨ (z.catchType ≠ 0 ∧ ∃ nm : String, (Cond.classLink own z.catchType nm).before args s = true ∧ va_Nc E nm s)) (hx : covers x pc = true) (h0 : x.catchType ≠ 0)
    (hlink : (Cond.classLink own x.catchType name).before args s = true) (hcast : (Cond.castable E name).before args s = true) (hcell : H[q]? = some ce) (hv : ce.vm = .none) (hcl : s.vm.findClass E = some ce.cls)
    (kk : W p l e R s m args below meth c H locs cells slots Q (F0 m x.handlerPc ls [.ref q])) : vx_W p l e R s m args below meth c H locs cells slots Q (F0 m pc ls rest) q := by
  intro T hT X
  have hpl : e.platform.magicAccessors = ({} : Platform).magicAccessors := by rw [X.admits.platform]
  obtain ⟨c3, c4, hc3, hc4, hasg⟩ := Cond.castable_spec hcast
  cases Option.some.inj (hc3.symm.trans hcl)
  obtain ⟨c5, hc5, hcl5⟩ := Cond.classLink_spec hown hlink e.platform hpl
  cases Option.some.inj (hc4.symm.trans hc5)
  obtain ⟨vm', X', st⟩ := X.thenCaughtThrough q (g := F0 m pc ls rest) rfl (Steps.refl _) (by rw [hT]; exact hcell) (by rw [hv]; rfl) (by obtain ⟨k9, h9, -⟩ := Vm.findClass_spec hcl; exact ⟨k9, h9⟩) pre x suf hsplit
    (fun z hz => by
      rcases hpass z hz with h | ⟨hz0, nm, hl1, hn1⟩
      · exact Or.inl h
      · obtain ⟨c6, hc6, hcl6⟩ := Cond.classLink_spec hown hl1 e.platform hpl
        obtain ⟨a8, b8, h1, h2, h3⟩ := hn1
        cases Option.some.inj (h1.symm.trans hcl)
        cases Option.some.inj (h2.symm.trans hc6)
        exact Or.inr ⟨hz0, _, hcl6, h3⟩) hx (Or.inr ⟨h0, c4, hcl5, hasg⟩)
  obtain ⟨t, a1, b1⟩ := kk (T.setVm vm') hT X'
  exact ⟨t, st.trans a1, b1⟩
end Rows
section Ends
variable {p : Program} {l : Launch} {e : Env} {R : Room} {s : State} {m : MethodId} {args : Array Value} {below : List Frame} {meth : Method} {c : Code} {H : Heap} {locs : List Loc} {cells slots : Nat} {Q : State → Prop}
variable {mc ms : Nat} {free : Addr → Prop} {A0 A1 : Nat → Prop} {H0 : Heap} {a : Array Value} {ls : Array Slot} {st0 rest : List Value}
variable {Qc : Array Value → State → Outcome → State → Prop} {XC : String → State → State → Prop}
/-- what a body that may throw owes at its end -/
def vx_MQ (below : List Frame) (Qc : Array Value → State → Outcome → State → Prop) (XC : String → State → State → Prop) (a : Array Value) (s : State) (mc ms : Nat) (free : Addr → Prop) : State → Prop := fun t =>
  ∃ o, t.status = .running ∧ Ended t below o ∧ vx_Q Qc XC mc ms free a s o t
theorem vx_ret {g : JFrame} {mc ms : Nat} (k : W p l e R s m args below meth c H locs cells slots (MQ below Qc args s mc ms free) g) : W p l e R s m args below meth c H locs cells slots (vx_MQ below Qc XC args s mc ms free) g := by
  intro T hT X
  obtain ⟨t, a1, o, b1, b2, b3, b4⟩ := k T hT X
  exact ⟨t, a1, o, b1, b2, Or.inl ⟨b3, b4⟩⟩
/-- not caught here: it goes on to the caller -/
theorem vx_widen {g : JFrame} {q : Addr} {k n : Nat} (h1 : cells ≤ k) (h2 : slots ≤ n) (kk : vx_W p l e R s m args below meth c H locs k n Q g q) : vx_W p l e R s m args below meth c H locs cells slots Q g q := fun T hT X => kk T hT (stand_widen X h1 h2)
theorem vx_out {pc : Nat} {E : String} {ce : Cell} {q : Addr} {mc ms : Nat} (hout : ∀ x ∈ c.exceptionTable.toList, covers x pc = false) (hlocks : meth.locks = false) (hcell : H[q]? = some ce) (hv : ce.vm = .none) (hcl : s.vm.findClass E = some ce.cls)
    (hx : ∀ t : State, t.heap = H → s.vm.Alike t.vm → XC E s t) (hf : ∀ z ∈ locs, free z.base) (hc : cells ≤ mc) (hs : slots ≤ ms) :
    vx_W p l e R s m args below meth c H locs cells slots (vx_MQ below Qc XC args s mc ms free) (F0 m pc ls rest) q := by
  intro T hT X
  obtain ⟨st1, hrun, hend, hW, hsm⟩ := X.leaveThrown q (g := F0 m pc ls rest) rfl rfl rfl hout hlocks
  have hcell9 : (T.setFrames (.throwing q :: below)).heap[q]? = some ce := by
    show T.heap[q]? = some ce
    rw [hT]; exact hcell
  exact ⟨_, st1, .threw q, hrun, hend, Or.inr ⟨q, rfl, E, ce, locs, hx _ hT hW.alike, hcell9, hv, hcl, hW, hsm.mono hc hs, hf⟩⟩
theorem vx_frame {U : State} {k n : Nat} (h : s.sameButNew ({ U with vm := s.vm } : State) locs k n) : s.heap.size ≤ U.heap.size ∧ ∀ q : Nat, q < s.heap.size → (∀ z ∈ locs, z.base ≠ q) → U.heap[q]? = s.heap[q]? := by
  obtain ⟨-, h2, -, -, -, h6⟩ := h
  refine ⟨h2, fun q hq hz => ?_⟩
  obtain ⟨c9, e1, e2, e3, e4⟩ := h6 q _ (Array.getElem?_eq_getElem hq)
  have hs : c9.slots = (s.heap[q]).slots := Array.ext_getElem? fun i => e4 i fun hm => hz _ hm rfl
  have h9 : c9 = s.heap[q] := by
    rw [hs] at e2
    exact e2
  have e5 : U.heap[q]? = some c9 := e1
  rw [e5, h9, Array.getElem?_eq_getElem hq]
/-- the words of a throw but the four that speak of the heap -/
def vx_no (w : Cond) : Bool := decide (w ≠ .isRef (.static Bundle.tN "UNASSIGNED_STACK" Bundle.steD)) && decide (w ≠ .isRef (.static Bundle.tN "SUPPRESSED_SENTINEL" Bundle.listD)) && decide (w ≠ .laysStatic Bundle.tN "UNASSIGNED_STACK" Bundle.steD) && decide (w ≠ .laysStatic Bundle.tN "SUPPRESSED_SENTINEL" Bundle.listD)
def vx_at0 (own : String) (ic : Nat) (X : String) (names : List String) : List Cond := (Bundle.ownAtoms0 own ic X names).filter vx_no
def vx_atS (own : String) (ic : Nat) (X : String) (names : List String) : List Cond := (Bundle.ownAtoms own ic X names).filter vx_no
/-- a word that the tables alone decide, or a good one -/
def vx_ot (w : Cond) : Bool := w.onTables || goodWord w
theorem vx_ot_at {args a' : Array Value} {s U : State} {w : Cond} (hW : s.WarmedH U.vm) (hvm : s.vm = U.vm) (hg : vx_ot w = true) (h : w.before args s = true) : w.before a' U = true := by
  simp only [vx_ot, Bool.or_eq_true] at hg
  rcases hg with hg | hg
  · exact va_tabs hg hvm h
  · exact word_at hW (good_of_word hg) h
/-- a list's words: the good ones out of the method's own list, the others by premises of their own -/
theorem vx_hat {args : Array Value} {s : State} {L B : List Cond} (h1 : ∀ w ∈ L.filter goodWord, w.before args s = true) (h2 : ∀ w ∈ L.filter (fun w => !goodWord w), w ∈ B) (h3 : ∀ w ∈ B, w.before args s = true) : ∀ w ∈ L, w.before args s = true := by
  intro w hw
  by_cases g : goodWord w = true
  · exact h1 w (List.mem_filter.mpr ⟨hw, g⟩)
  · refine h3 w (h2 w (List.mem_filter.mpr ⟨hw, ?_⟩))
    show (!goodWord w) = true
    cases hgw : goodWord w
    · rfl
    · exact absurd hgw g
theorem vx_c {args : Array Value} {s : State} {w : Cond} {B : List Cond} (h : w.before args s = true) (t : ∀ w ∈ B, w.before args s = true) : ∀ w' ∈ w :: B, w'.before args s = true := fun w' h' => (List.mem_cons.mp h').elim (fun e => by rw [e]; exact h) (t w')
theorem vx_n {args : Array Value} {s : State} : ∀ w ∈ ([] : List Cond), w.before args s = true := fun _ h => nomatch h
theorem vx_own {args : Array Value} {s : State} {L : List Cond} (h1 : ∀ w ∈ L.filter vx_no, w.before args s = true)
    (hU : (Cond.isRef (.static Bundle.tN "UNASSIGNED_STACK" Bundle.steD)).before args s = true) (hN : (Cond.isRef (.static Bundle.tN "SUPPRESSED_SENTINEL" Bundle.listD)).before args s = true)
    (lU : (Cond.laysStatic Bundle.tN "UNASSIGNED_STACK" Bundle.steD).before args s = true) (lN : (Cond.laysStatic Bundle.tN "SUPPRESSED_SENTINEL" Bundle.listD).before args s = true) : ∀ w ∈ L, w.before args s = true := by
  intro w hw
  by_cases e1 : w = .isRef (.static Bundle.tN "UNASSIGNED_STACK" Bundle.steD)
  · rw [e1]; exact hU
  · by_cases e2 : w = .isRef (.static Bundle.tN "SUPPRESSED_SENTINEL" Bundle.listD)
    · rw [e2]; exact hN
    · by_cases e3 : w = .laysStatic Bundle.tN "UNASSIGNED_STACK" Bundle.steD
      · rw [e3]; exact lU
      · by_cases e4 : w = .laysStatic Bundle.tN "SUPPRESSED_SENTINEL" Bundle.listD
        · rw [e4]; exact lN
        · exact h1 w (List.mem_filter.mpr ⟨hw, by unfold vx_no; rw [decide_eq_true e1, decide_eq_true e2, decide_eq_true e3, decide_eq_true e4]; rfl⟩)
/-- where a static field lies, its class's statics cell in H -/
def vx_L (C n d : String) (A : Nat → Prop) (U : State) (H : Heap) : Prop := ∃ (c : ClassId) (k : Class) (i : Nat) (f : Field) (a : Nat) (cell : Cell), U.vm.findClass C = some c ∧ U.fieldFound? C n d = some (c, k, i, f) ∧ f.isStatic = true ∧ k.statics = some a ∧ H[a]? = some cell ∧ cell.vm.isStatics = true ∧ cell.cls = c ∧ f.slot < cell.slots.size ∧ k.staticTypes[f.slot]? = some f.type ∧ ¬ A a
theorem vx_L.moved {C n d : String} {A : Nat → Prop} {u U : State} {H : Heap} (hvm : u.vm.Alike U.vm) (h : vx_L C n d A u H) : vx_L C n d A U H := by
  obtain ⟨c, k, i, f, a, cell, h1, h2, h3, h4, h5, h6, h7, h8, h9, h10⟩ := h
  obtain ⟨k', hi', he⟩ := State.fieldFound?_setVm hvm h2
  exact ⟨c, k', i, f, a, cell, by rw [hvm.findClass]; exact h1, hi', h3, by rw [he]; exact h4, h5, h6, h7, h8, by rw [he]; exact h9, h10⟩
theorem vx_L.kept {C n d : String} {A : Nat → Prop} {U : State} {H H1 : Heap} (h : vx_L C n d A U H) (hq : ∀ a : Nat, a < H.size → ¬ A a → H1[a]? = H[a]?) : vx_L C n d A U H1 := by
  obtain ⟨c, k, i, f, a, cell, h1, h2, h3, h4, h5, h6, h7, h8, h9, h10⟩ := h
  exact ⟨c, k, i, f, a, cell, h1, h2, h3, h4, by rw [hq a (Array.getElem?_eq_some_iff.mp h5).1 h10]; exact h5, h6, h7, h8, h9, h10⟩
theorem vx_L.narrow {C n d : String} {A B : Nat → Prop} {U : State} {H : Heap} (h : vx_L C n d A U H) (hAB : ∀ q, B q → A q) : vx_L C n d B U H := by
  obtain ⟨c, k, i, f, a, cell, h1, h2, h3, h4, h5, h6, h7, h8, h9, h10⟩ := h
  exact ⟨c, k, i, f, a, cell, h1, h2, h3, h4, h5, h6, h7, h8, h9, fun z => h10 (hAB _ z)⟩
theorem vx_L.word {C n d : String} {A : Nat → Prop} {s : State} {args : Array Value} (h : vx_L C n d A s s.heap) : (Cond.laysStatic C n d).before args s = true := by
  obtain ⟨c, k, i, f, a, cell, h1, h2, h3, h4, h5, h6, h7, h8, h9, -⟩ := h
  show (Cond.laysStatic C n d).holds args s none s [] = true
  exact Cond.laysStatic_of h1 h2 h3 h4 h5 h6 h7 h8 h9
/-- .. and what it holds: null or some reference -/
def vx_Zq (C n d : String) (A : Nat → Prop) (U : State) (H : Heap) : Prop := va_Zq C n d A U H ∧ vx_L C n d A U H
theorem vx_Zq.moved {C n d : String} {A : Nat → Prop} {u U : State} {H : Heap} (hvm : u.vm.Alike U.vm) (h : vx_Zq C n d A u H) : vx_Zq C n d A U H := ⟨va_Zq.moved hvm h.1, vx_L.moved hvm h.2⟩
theorem vx_Zq.kept {C n d : String} {A : Nat → Prop} {U : State} {H H1 : Heap} (h : vx_Zq C n d A U H) (hq : ∀ a : Nat, a < H.size → ¬ A a → H1[a]? = H[a]?) : vx_Zq C n d A U H1 := ⟨va_Zq.kept h.1 hq, vx_L.kept h.2 hq⟩
theorem vx_Zq.narrow {C n d : String} {A B : Nat → Prop} {U : State} {H : Heap} (h : vx_Zq C n d A U H) (hAB : ∀ q, B q → A q) : vx_Zq C n d B U H := ⟨va_Zq.narrow h.1 hAB, vx_L.narrow h.2 hAB⟩
theorem vx_Zqof {args : Array Value} {s : State} {C n d : String} {A : Nat → Prop} (hl : (Cond.laysStatic C n d).before args s = true) (hini : (Cond.initialized C).before args s = true) (h : (Cond.isRef (.static C n d)).before args s = true) (hA : ∀ a : Nat, a < s.heap.size → ¬ A a) : vx_Zq C n d A s s.heap := by
  refine ⟨va_Zqof hl hini h hA, ?_⟩
  obtain ⟨c, k, i, f, a, cell, h1, h2, h3, h4, h5, h6, h7, h8, h9⟩ := Cond.laysStatic_spec hl
  exact ⟨c, k, i, f, a, cell, h1, h2, h3, h4, h5, h6, h7, h8, h9, hA a (Array.getElem?_eq_some_iff.mp h5).1⟩
theorem vx_isRef {C n d : String} {v : Value} {A : Nat → Prop} {s : State} {args : Array Value} (h : va_Z C n d v A s s.heap) (hv : v.isRef = true) : (Cond.isRef (.static C n d)).before args s = true := by
  obtain ⟨cf, kf, fi, f, a, cell, h1, h2, h3, h4, h5, h6, h7, -⟩ := h
  have he : (Term.static C n d).eval args s none [] s = some v := by
    simp [Term.eval, State.fieldNamed?, h1, h2, h4, h5, h6, h7]
  simp only [Cond.before, Cond.holds, Cond.value, he]
  cases v <;> simp_all [Value.isRef]
theorem vx_isRefq {C n d : String} {A : Nat → Prop} {s : State} {args : Array Value} (h : va_Zq C n d A s s.heap) : (Cond.isRef (.static C n d)).before args s = true := by
  rcases h with h | ⟨t, h⟩
  · exact vx_isRef h rfl
  · exact vx_isRef h rfl
/-- the same frame, seen from here: as if the method were called anew in this heap -/
theorem vx_rebase {T : State} (X : Stand p l e R s m args below meth c T locs cells slots) {R' : Room} (hf : R'.frames ≤ R.frames) (hl : R'.locals ≤ R.locals) (hc : cells + R'.cells ≤ R.cells) (hs : slots + R'.slots ≤ R.slots) :
    Stand p l e R' ((T.setVm s.vm).setFrames (.invoking m args :: below)) m args below meth c T [] 0 0 := by
  have htop : (T.setVm s.vm).topJava?.isSome := X.here.top
  have hF : ((T.setVm s.vm).setFrames (.invoking m args :: below)).frames = .invoking m args :: below := State.frames_setFrames _ (State.cur_lt_of_top htop)
  obtain ⟨g₀, hg0⟩ := Option.isSome_iff_exists.mp htop
  obtain ⟨r, hr⟩ := State.topJava?_eq_some.mp hg0
  have hl9 : e.platform.stackLimits (T.setVm s.vm).me = e.platform.stackLimits s.me := X.limits
  have hb9 : (T.setVm s.vm).me.stackBytes = s.me.stackBytes := X.bytes
  refine ⟨X.admits, X.cas, X.clock, hF, ?_, X.hears, X.method, X.code, X.here, X.tail, X.warmed, ?_, ?_, ?_⟩
  · have h := X.room
    have hU : ((T.setVm s.vm).setFrames (.invoking m args :: below)).localsInUse = s.localsInUse := by
      rw [State.localsInUse_invoking hF (meth := meth) (c := c) X.method X.code, State.localsInUse_invoking X.frames X.method X.code]
    simp only [State.hasRoom, Bool.and_eq_true, decide_eq_true_eq] at h ⊢
    obtain ⟨⟨⟨⟨h1, h2, h3, h4, h5, h6⟩, h7⟩, h8⟩, h9⟩ := h
    rw [X.frames, List.length_cons] at h2 h3
    have q1 := X.heapSize
    have q2 := X.used
    simp only [hF, hU, List.length_cons, State.stackLimits_setFrames, State.stackBytes_setFrames, hl9, hb9]
    refine ⟨⟨⟨⟨by omega, by omega, by omega, by omega, by omega, h6⟩, ?_⟩, ?_⟩, X.book⟩
    · show T.heap.size + R'.cells ≤ e.platform.maxCells
      omega
    · show T.slotsUsed + R'.slots ≤ e.platform.maxSlots
      omega
  · rw [State.stackLimits_setFrames]; rfl
  · rw [State.stackBytes_setFrames]; rfl
  · refine ⟨?_, Nat.le_refl _, Nat.le_refl _, ?_, ?_, fun a c9 h9 => ⟨c9, h9, rfl, rfl, fun _ _ => rfl⟩⟩
    · obtain ⟨t, ht, -⟩ := State.frames_cons hr
      show T.setVm s.vm = { ((T.setVm s.vm).setFrames (.invoking m args :: below)).setFrames (T.setVm s.vm).frames with heap := T.heap, slotsUsed := T.slotsUsed }
      rw [State.setFrames_setFrames, State.setFrames_self ht]
      rfl
    · show T.slotsUsed = T.slotsUsed + ((T.heap.toList.drop T.heap.size).map (·.slots.size)).sum
      rw [List.drop_eq_nil_of_le (Nat.le_of_eq Array.length_toList)]
      rfl
    · show ((T.heap.toList.drop T.heap.size).map (·.slots.size)).sum ≤ 0
      rw [List.drop_eq_nil_of_le (Nat.le_of_eq Array.length_toList)]
      exact Nat.le_refl _
/-- 'throw new E()': new; dup; invokespecial; athrow -/
theorem vx_throw0 {cc : ByteArray} {pc : Nat} (hexec : p.tables.exec = Jvm.exec) (hb : c.code = cc) (hl : l.stackTraces = false) {own cls : String} {names : List String} {ik ic mc ms : Nat} {A : Nat → Prop}
    (hown : s.vm.findClass own = some m.cls) (hcls : Bundle.fit cls = true) (hnames : ∀ n ∈ names, Bundle.fit n = true)
    (hk : (Cond.classLink own ik cls).before args s = true) (hini : (Cond.initialized cls).before args s = true) (hat : ∀ w ∈ vx_at0 own ic cls names, w.before args s = true)
    (hgood : ∀ w ∈ Cond.classLink own ik cls :: Cond.initialized cls :: vx_at0 own ic cls names, vx_ot w = true)
    (hU : vx_Zq Bundle.tN "UNASSIGNED_STACK" Bundle.steD A s s.heap) (hN : vx_Zq Bundle.tN "SUPPRESSED_SENTINEL" Bundle.listD A s s.heap) (hS : va_S A s.heap H locs) (hsize : ls.size = c.maxLocals)
    (d0 : decode cc pc = .ok (.new ik, 3)) (d3 : decode cc (pc + 3) = .ok (.dup, 1)) (d4 : decode cc (pc + 4) = .ok (.invokespecial ic, 3)) (d7 : decode cc (pc + 7) = .ok (.athrow, 1))
    (hout : ∀ x ∈ c.exceptionTable.toList, covers x (pc + 7) = false)
    (hRframes : names.length + 3 < R.frames) (hRlocals : (rest.map fun v => v.category).sum + (13 * (names.length + 1) + 42) ≤ R.locals) (hRcells : cells + 1 ≤ R.cells) (hRslots : slots + 6 ≤ R.slots) (hlocks : meth.locks = false)
    (hx : ∀ t : State, s.vm.Alike t.vm → H.size ≤ t.heap.size → (∀ q : Nat, q < H.size → t.heap[q]? = H[q]?) → XC cls s t)
    (hf : ∀ z ∈ locs, free z.base) (hc : cells + 1 ≤ mc) (hs : slots + 6 ≤ ms) :
    W p l e R s m args below meth c H locs cells slots (vx_MQ below Qc XC args s mc ms free) (F0 m pc ls rest) := by
  intro T hT X
  have htr : e.platform.stackTraces = false := (show e.platform.stackTraces = l.stackTraces by rw [X.admits.platform]).trans hl
  have Y := vx_rebase X (R' := { frames := R.frames, locals := R.locals, cells := 1, slots := 6 }) (Nat.le_refl _) (Nat.le_refl _) hRcells hRslots
  obtain ⟨s', hA⟩ : ∃ z, z = (T.setVm s.vm).setFrames (.invoking m args :: below) := ⟨_, rfl⟩
  rw [← hA] at Y
  have hvm : s'.vm = s.vm := by rw [hA]; rfl
  have hhp : s'.heap = H := by rw [hA]; exact hT
  have hW0 : s.WarmedH s'.vm := by rw [hvm]; exact State.WarmedH.refl s
  have hat' : ∀ w ∈ vx_at0 own ic cls names, w.before args s' = true := fun w hw => vx_ot_at hW0 hvm.symm (hgood w (List.mem_cons_of_mem _ (List.mem_cons_of_mem _ hw))) (hat w hw)
  have hk' : (Cond.classLink own ik cls).before args s' = true := vx_ot_at hW0 hvm.symm (hgood _ List.mem_cons_self) hk
  have hini' : (Cond.initialized cls).before args s' = true := vx_ot_at hW0 hvm.symm (hgood _ (List.mem_cons_of_mem _ List.mem_cons_self)) hini
  have hU' : vx_Zq Bundle.tN "UNASSIGNED_STACK" Bundle.steD A s' s'.heap := by rw [hhp]; exact vx_Zq.moved hW0.alike (hU.kept hS.2.1)
  have hN' : vx_Zq Bundle.tN "SUPPRESSED_SENTINEL" Bundle.listD A s' s'.heap := by rw [hhp]; exact vx_Zq.moved hW0.alike (hN.kept hS.2.1)
  have h : ∀ w ∈ Bundle.ownAtoms0 own ic cls names, w.before args s' = true := vx_own hat' (vx_isRefq hU'.1) (vx_isRefq hN'.1) hU'.2.word hN'.2.word
  have hown' : s'.vm.findClass own = some m.cls := by rw [hvm]; exact hown
  have hins : (Cond.instantiable cls 6).before args s' = true := h _ (by simp [Bundle.ownAtoms0])
  obtain ⟨vm₁, cX, kX, hfX, hkX, -, -, X₁, st1⟩ := Y.newCold hexec (own := own) (C := cls) (index := ik) (n := 6) hown' hk' hins hini'
    (g := F0 m pc ls rest) rfl (by rw [hb]; exact d0) (Nat.le_refl _) (Nat.le_refl _)
  generalize hT1 : (T.setVm vm₁).pushCell { cls := cX, slots := kX.instanceTypes.map defaultValue, vm := .none } = T1 at X₁ st1
  have hcat : (Value.ref T.heap.size).category = 1 := rfl
  have hcellA : T1.heap[T.heap.size]? = some (freshCell cX kX) := by rw [← hT1]; exact State.heap_pushCell_size _ _
  have d3' : decode c.code (pc + 3) = .ok (.dup, 1) := by rw [hb]; exact d3
  obtain ⟨U, hsteps, hrun, hend, hW, hsame, ce, hce, hO⟩ := X₁.ctorThrow0 hexec htr (own := own) (cls := cls) (names := names) (ic := ic) hown' hcls hnames h (fun x hx => nomatch hx) hfX hkX hcellA (by rw [hhp, hT]; exact Nat.le_refl _)
    (g := { method := m, pc := pc + 4, locals := ls, stack := .ref T.heap.size :: .ref T.heap.size :: rest, locked := none }) rfl hsize rfl rfl (rest := rest) rfl
    (by rw [hb]; exact d4) (by rw [hb]; exact d7) hout hRframes (by simp only [List.map_cons, List.sum_cons, hcat]; omega) hlocks
  obtain ⟨f1, f2⟩ := vx_frame hsame
  rw [hhp] at f1 f2
  have hWs : s.WarmedH U.vm := State.WarmedH.trans hW0 hW
  have hcl : s.vm.findClass cls = some ce.cls := by
    have h9 := hO.cls
    rw [hvm] at h9
    exact h9
  have hall : s.sameButNew ({ U with vm := s.vm } : State) locs mc ms := by
    subst hA
    obtain ⟨e1, e2⟩ := hsame
    rw [State.setFrames_setFrames] at e1
    have h2 : (T.setVm s.vm).sameButNew ({ U with vm := s.vm } : State) [] (0 + 1) (0 + 6) := ⟨e1, e2⟩
    have h3 := X.same.trans h2
    rw [List.append_nil] at h3
    exact h3.mono hc hs
  refine ⟨U, ?_, .threw T.heap.size, hrun, hend, Or.inr ⟨T.heap.size, rfl, cls, ce, locs, hx U hWs.alike f1 (fun q hq => f2 q hq (fun z hz => nomatch hz)), hce, hO.vm, hcl, hWs, hall, hf⟩⟩
  refine st1 _ ?_
  show Steps p.tables e below (T1.setTop { method := m, pc := pc + 3, locals := ls, stack := .ref T.heap.size :: rest, locked := none }) _
  jvm_step X₁.here [X₁.here.top, hexec, d3', Value.category]
  exact hsteps
/-- 'throw new E("text")': new; dup; ldc; invokespecial; athrow -/
theorem vx_throwS {cc : ByteArray} {pc : Nat} (hexec : p.tables.exec = Jvm.exec) (hb : c.code = cc) (hl : l.stackTraces = false) {own cls text : String} {names : List String} {ik is ic mc ms sa : Nat} {A : Nat → Prop}
    (hown : s.vm.findClass own = some m.cls) (hcls : Bundle.fit cls = true) (hnames : ∀ n ∈ names, Bundle.fit n = true)
    (hk : (Cond.classLink own ik cls).before args s = true) (hini : (Cond.initialized cls).before args s = true) (hstr : vk_R own is text sa s) (hat : ∀ w ∈ vx_atS own ic cls names, w.before args s = true)
    (hgood : ∀ w ∈ Cond.classLink own ik cls :: Cond.initialized cls :: vx_atS own ic cls names, vx_ot w = true)
    (hU : vx_Zq Bundle.tN "UNASSIGNED_STACK" Bundle.steD A s s.heap) (hN : vx_Zq Bundle.tN "SUPPRESSED_SENTINEL" Bundle.listD A s s.heap) (hS : va_S A s.heap H locs) (hsize : ls.size = c.maxLocals)
    (d0 : decode cc pc = .ok (.new ik, 3)) (d3 : decode cc (pc + 3) = .ok (.dup, 1)) (d4 : decode cc (pc + 4) = .ok (.ldc is, 2)) (d6 : decode cc (pc + 6) = .ok (.invokespecial ic, 3)) (d9 : decode cc (pc + 9) = .ok (.athrow, 1))
    (hout : ∀ x ∈ c.exceptionTable.toList, covers x (pc + 9) = false)
    (hRframes : names.length + 3 < R.frames) (hRlocals : (rest.map fun v => v.category).sum + (13 * (names.length + 1) + 43) ≤ R.locals) (hRcells : cells + 1 ≤ R.cells) (hRslots : slots + 6 ≤ R.slots) (hlocks : meth.locks = false)
    (hx : ∀ t : State, s.vm.Alike t.vm → H.size ≤ t.heap.size → (∀ q : Nat, q < H.size → t.heap[q]? = H[q]?) → XC cls s t)
    (hf : ∀ z ∈ locs, free z.base) (hc : cells + 1 ≤ mc) (hs : slots + 6 ≤ ms) :
    W p l e R s m args below meth c H locs cells slots (vx_MQ below Qc XC args s mc ms free) (F0 m pc ls rest) := by
  intro T hT X
  have htr : e.platform.stackTraces = false := (show e.platform.stackTraces = l.stackTraces by rw [X.admits.platform]).trans hl
  have Y := vx_rebase X (R' := { frames := R.frames, locals := R.locals, cells := 1, slots := 6 }) (Nat.le_refl _) (Nat.le_refl _) hRcells hRslots
  obtain ⟨s', hA⟩ : ∃ z, z = (T.setVm s.vm).setFrames (.invoking m args :: below) := ⟨_, rfl⟩
  rw [← hA] at Y
  have hvm : s'.vm = s.vm := by rw [hA]; rfl
  have hhp : s'.heap = H := by rw [hA]; exact hT
  have hW0 : s.WarmedH s'.vm := by rw [hvm]; exact State.WarmedH.refl s
  have hat' : ∀ w ∈ vx_atS own ic cls names, w.before args s' = true := fun w hw => vx_ot_at hW0 hvm.symm (hgood w (List.mem_cons_of_mem _ (List.mem_cons_of_mem _ hw))) (hat w hw)
  have hk' : (Cond.classLink own ik cls).before args s' = true := vx_ot_at hW0 hvm.symm (hgood _ List.mem_cons_self) hk
  have hini' : (Cond.initialized cls).before args s' = true := vx_ot_at hW0 hvm.symm (hgood _ (List.mem_cons_of_mem _ List.mem_cons_self)) hini
  have hU' : vx_Zq Bundle.tN "UNASSIGNED_STACK" Bundle.steD A s' s'.heap := by rw [hhp]; exact vx_Zq.moved hW0.alike (hU.kept hS.2.1)
  have hN' : vx_Zq Bundle.tN "SUPPRESSED_SENTINEL" Bundle.listD A s' s'.heap := by rw [hhp]; exact vx_Zq.moved hW0.alike (hN.kept hS.2.1)
  have h : ∀ w ∈ Bundle.ownAtoms own ic cls names, w.before args s' = true := vx_own hat' (vx_isRefq hU'.1) (vx_isRefq hN'.1) hU'.2.word hN'.2.word
  have hown' : s'.vm.findClass own = some m.cls := by rw [hvm]; exact hown
  have hins : (Cond.instantiable cls 6).before args s' = true := h _ (by simp [Bundle.ownAtoms])
  obtain ⟨vm₁, cX, kX, hfX, hkX, -, -, X₁, st1⟩ := Y.newCold hexec (own := own) (C := cls) (index := ik) (n := 6) hown' hk' hins hini'
    (g := F0 m pc ls rest) rfl (by rw [hb]; exact d0) (Nat.le_refl _) (Nat.le_refl _)
  generalize hT1 : (T.setVm vm₁).pushCell { cls := cX, slots := kX.instanceTypes.map defaultValue, vm := .none } = T1 at X₁ st1
  have hcat : (Value.ref T.heap.size).category = 1 := rfl
  have hcellA : T1.heap[T.heap.size]? = some (freshCell cX kX) := by rw [← hT1]; exact State.heap_pushCell_size _ _
  have d3' : decode c.code (pc + 3) = .ok (.dup, 1) := by rw [hb]; exact d3
  have d4' : decode c.code (pc + 4) = .ok (.ldc is, 2) := by rw [hb]; exact d4
  have hstr' : vk_R own is text sa s' := vk_R.warm hW0 hstr
  obtain ⟨U, hsteps, hrun, hend, hW, hsame, ce, hce, hO⟩ := X₁.ctorThrowS hexec htr (own := own) (cls := cls) (names := names) (ic := ic) hown' hcls hnames h (fun x hx => nomatch hx) hfX hkX hcellA (by rw [hhp, hT]; exact Nat.le_refl _) (msg := .ref sa) rfl
    (g := { method := m, pc := pc + 6, locals := ls, stack := .ref sa :: .ref T.heap.size :: .ref T.heap.size :: rest, locked := none }) rfl hsize rfl rfl (rest := rest) rfl
    (by rw [hb]; exact d6) (by rw [hb]; exact d9) hout hRframes (by simp only [List.map_cons, List.sum_cons, hcat]; omega) hlocks
  obtain ⟨f1, f2⟩ := vx_frame hsame
  rw [hhp] at f1 f2
  have hWs : s.WarmedH U.vm := State.WarmedH.trans hW0 hW
  have hcl : s.vm.findClass cls = some ce.cls := by
    have h9 := hO.cls
    rw [hvm] at h9
    exact h9
  have hall : s.sameButNew ({ U with vm := s.vm } : State) locs mc ms := by
    subst hA
    obtain ⟨e1, e2⟩ := hsame
    rw [State.setFrames_setFrames] at e1
    have h2 : (T.setVm s.vm).sameButNew ({ U with vm := s.vm } : State) [] (0 + 1) (0 + 6) := ⟨e1, e2⟩
    have h3 := X.same.trans h2
    rw [List.append_nil] at h3
    exact h3.mono hc hs
  refine ⟨U, ?_, .threw T.heap.size, hrun, hend, Or.inr ⟨T.heap.size, rfl, cls, ce, locs, hx U hWs.alike f1 (fun q hq => f2 q hq (fun z hz => nomatch hz)), hce, hO.vm, hcl, hWs, hall, hf⟩⟩
  refine st1 _ ?_
  show Steps p.tables e below (T1.setTop { method := m, pc := pc + 3, locals := ls, stack := .ref T.heap.size :: rest, locked := none }) _
  jvm_step X₁.here [X₁.here.top, hexec, d3', Value.category]
  exact X₁.ldcString hexec (own := own) (text := text) (index := is) (a := sa) hown' hstr'.1 hstr'.2
    (g := { method := m, pc := pc + 4, locals := ls, stack := .ref T.heap.size :: .ref T.heap.size :: rest, locked := none }) rfl d4' _ hsteps
/-- 'throw new E("text")', the text by a wide index -/
theorem vx_throwSW {cc : ByteArray} {pc : Nat} (hexec : p.tables.exec = Jvm.exec) (hb : c.code = cc) (hl : l.stackTraces = false) {own cls text : String} {names : List String} {ik is ic mc ms sa : Nat} {A : Nat → Prop}
    (hown : s.vm.findClass own = some m.cls) (hcls : Bundle.fit cls = true) (hnames : ∀ n ∈ names, Bundle.fit n = true)
    (hk : (Cond.classLink own ik cls).before args s = true) (hini : (Cond.initialized cls).before args s = true) (hstr : vk_R own is text sa s) (hat : ∀ w ∈ vx_atS own ic cls names, w.before args s = true)
    (hgood : ∀ w ∈ Cond.classLink own ik cls :: Cond.initialized cls :: vx_atS own ic cls names, vx_ot w = true)
    (hU : vx_Zq Bundle.tN "UNASSIGNED_STACK" Bundle.steD A s s.heap) (hN : vx_Zq Bundle.tN "SUPPRESSED_SENTINEL" Bundle.listD A s s.heap) (hS : va_S A s.heap H locs) (hsize : ls.size = c.maxLocals)
    (d0 : decode cc pc = .ok (.new ik, 3)) (d3 : decode cc (pc + 3) = .ok (.dup, 1)) (d4 : decode cc (pc + 4) = .ok (.ldc_w is, 3)) (d7 : decode cc (pc + 7) = .ok (.invokespecial ic, 3)) (d10 : decode cc (pc + 10) = .ok (.athrow, 1))
    (hout : ∀ x ∈ c.exceptionTable.toList, covers x (pc + 10) = false)
    (hRframes : names.length + 3 < R.frames) (hRlocals : (rest.map fun v => v.category).sum + (13 * (names.length + 1) + 43) ≤ R.locals) (hRcells : cells + 1 ≤ R.cells) (hRslots : slots + 6 ≤ R.slots) (hlocks : meth.locks = false)
    (hx : ∀ t : State, s.vm.Alike t.vm → H.size ≤ t.heap.size → (∀ q : Nat, q < H.size → t.heap[q]? = H[q]?) → XC cls s t)
    (hf : ∀ z ∈ locs, free z.base) (hc : cells + 1 ≤ mc) (hs : slots + 6 ≤ ms) :
    W p l e R s m args below meth c H locs cells slots (vx_MQ below Qc XC args s mc ms free) (F0 m pc ls rest) := by
  intro T hT X
  have htr : e.platform.stackTraces = false := (show e.platform.stackTraces = l.stackTraces by rw [X.admits.platform]).trans hl
  have Y := vx_rebase X (R' := { frames := R.frames, locals := R.locals, cells := 1, slots := 6 }) (Nat.le_refl _) (Nat.le_refl _) hRcells hRslots
  obtain ⟨s', hA⟩ : ∃ z, z = (T.setVm s.vm).setFrames (.invoking m args :: below) := ⟨_, rfl⟩
  rw [← hA] at Y
  have hvm : s'.vm = s.vm := by rw [hA]; rfl
  have hhp : s'.heap = H := by rw [hA]; exact hT
  have hW0 : s.WarmedH s'.vm := by rw [hvm]; exact State.WarmedH.refl s
  have hat' : ∀ w ∈ vx_atS own ic cls names, w.before args s' = true := fun w hw => vx_ot_at hW0 hvm.symm (hgood w (List.mem_cons_of_mem _ (List.mem_cons_of_mem _ hw))) (hat w hw)
  have hk' : (Cond.classLink own ik cls).before args s' = true := vx_ot_at hW0 hvm.symm (hgood _ List.mem_cons_self) hk
  have hini' : (Cond.initialized cls).before args s' = true := vx_ot_at hW0 hvm.symm (hgood _ (List.mem_cons_of_mem _ List.mem_cons_self)) hini
  have hU' : vx_Zq Bundle.tN "UNASSIGNED_STACK" Bundle.steD A s' s'.heap := by rw [hhp]; exact vx_Zq.moved hW0.alike (hU.kept hS.2.1)
  have hN' : vx_Zq Bundle.tN "SUPPRESSED_SENTINEL" Bundle.listD A s' s'.heap := by rw [hhp]; exact vx_Zq.moved hW0.alike (hN.kept hS.2.1)
  have h : ∀ w ∈ Bundle.ownAtoms own ic cls names, w.before args s' = true := vx_own hat' (vx_isRefq hU'.1) (vx_isRefq hN'.1) hU'.2.word hN'.2.word
  have hown' : s'.vm.findClass own = some m.cls := by rw [hvm]; exact hown
  have hins : (Cond.instantiable cls 6).before args s' = true := h _ (by simp [Bundle.ownAtoms])
  obtain ⟨vm₁, cX, kX, hfX, hkX, -, -, X₁, st1⟩ := Y.newCold hexec (own := own) (C := cls) (index := ik) (n := 6) hown' hk' hins hini'
    (g := F0 m pc ls rest) rfl (by rw [hb]; exact d0) (Nat.le_refl _) (Nat.le_refl _)
  generalize hT1 : (T.setVm vm₁).pushCell { cls := cX, slots := kX.instanceTypes.map defaultValue, vm := .none } = T1 at X₁ st1
  have hcat : (Value.ref T.heap.size).category = 1 := rfl
  have hcellA : T1.heap[T.heap.size]? = some (freshCell cX kX) := by rw [← hT1]; exact State.heap_pushCell_size _ _
  have d3' : decode c.code (pc + 3) = .ok (.dup, 1) := by rw [hb]; exact d3
  have d4' : decode c.code (pc + 4) = .ok (.ldc_w is, 3) := by rw [hb]; exact d4
  have hstr' : vk_R own is text sa s' := vk_R.warm hW0 hstr
  obtain ⟨U, hsteps, hrun, hend, hW, hsame, ce, hce, hO⟩ := X₁.ctorThrowS hexec htr (own := own) (cls := cls) (names := names) (ic := ic) hown' hcls hnames h (fun x hx => nomatch hx) hfX hkX hcellA (by rw [hhp, hT]; exact Nat.le_refl _) (msg := .ref sa) rfl
    (g := { method := m, pc := pc + 7, locals := ls, stack := .ref sa :: .ref T.heap.size :: .ref T.heap.size :: rest, locked := none }) rfl hsize rfl rfl (rest := rest) rfl
    (by rw [hb]; exact d7) (by rw [hb]; exact d10) hout hRframes (by simp only [List.map_cons, List.sum_cons, hcat]; omega) hlocks
  obtain ⟨f1, f2⟩ := vx_frame hsame
  rw [hhp] at f1 f2
  have hWs : s.WarmedH U.vm := State.WarmedH.trans hW0 hW
  have hcl : s.vm.findClass cls = some ce.cls := by
    have h9 := hO.cls
    rw [hvm] at h9
    exact h9
  have hall : s.sameButNew ({ U with vm := s.vm } : State) locs mc ms := by
    subst hA
    obtain ⟨e1, e2⟩ := hsame
    rw [State.setFrames_setFrames] at e1
    have h2 : (T.setVm s.vm).sameButNew ({ U with vm := s.vm } : State) [] (0 + 1) (0 + 6) := ⟨e1, e2⟩
    have h3 := X.same.trans h2
    rw [List.append_nil] at h3
    exact h3.mono hc hs
  refine ⟨U, ?_, .threw T.heap.size, hrun, hend, Or.inr ⟨T.heap.size, rfl, cls, ce, locs, hx U hWs.alike f1 (fun q hq => f2 q hq (fun z hz => nomatch hz)), hce, hO.vm, hcl, hWs, hall, hf⟩⟩
  refine st1 _ ?_
  show Steps p.tables e below (T1.setTop { method := m, pc := pc + 3, locals := ls, stack := .ref T.heap.size :: rest, locked := none }) _
  jvm_step X₁.here [X₁.here.top, hexec, d3', Value.category]
  exact X₁.ldcStringW hexec (own := own) (text := text) (index := is) (a := sa) hown' hstr'.1 hstr'.2
    (g := { method := m, pc := pc + 4, locals := ls, stack := .ref T.heap.size :: .ref T.heap.size :: rest, locked := none }) rfl d4' _ hsteps
end Ends
section Bodies
variable {l : Launch}
theorem vx_ofW {y : MethodName} {ws ws' : List Cond} {rm : Room} {Pc : Array Value → State → Prop} {Qc : Array Value → State → Outcome → State → Prop} {XC : String → State → State → Prop} {mc ms : Nat} {free : Addr → Prop} {cc : ByteArray} {maxL : Nat} {ret : Option FieldType}
    (hy : plainName y.cls = true) (hw : ws = Cond.code y cc maxL ret :: ws')
    (body : ∀ p e s m args below meth c s₁, BodyLoose p l y (headSpec ws rm) cc maxL ret e s m args below meth c s₁ → c.maxLocals = maxL → (∀ x ∈ c.exceptionTable.toList, False) → Pc args s →
      W p l e (headSpec ws rm).room s m args below meth c s.heap [] 0 0 (vx_MQ below Qc XC args s mc ms free) (entryFrame m args maxL)) : vx_Met l y ws rm Pc Qc XC mc ms free := by
  refine MetFree.of_bodyS (code := cc) (maxLocals := maxL) (ret := ret) hy ?_ ?_
  · intro args s m h hn
    obtain ⟨meth, c, h1, h2, h3, h4, h5, h6, -, -⟩ := Cond.code_spec hn (atoms_spec (ws := ws) h _ (by rw [hw]; exact List.mem_cons_self))
    exact ⟨meth, c, h1, h2, h3, h4, h5, h6⟩
  · intro p e s m args below meth c s₁ B hml hP _
    have hh0 : s₁.heap = s.heap := by rw [B.state]; rfl
    have ht : ∀ x ∈ c.exceptionTable.toList, False := by
      obtain ⟨meth9, c9, h1, h2, -, -, -, -, h7, -⟩ := Cond.code_spec B.named (atoms_spec (ws := ws) B.pre _ (by rw [hw]; exact List.mem_cons_self))
      cases Option.some.inj (h1.symm.trans B.method)
      cases Option.some.inj (h2.symm.trans (Stand.of_body B).code)
      intro x hx
      rw [Array.isEmpty_iff.mp h7] at hx
      cases hx
    obtain ⟨t, a1, o, b1, b2, b3⟩ := body p e s m args below meth c s₁ B hml ht hP s₁ hh0 (Stand.of_body B)
    exact ⟨t, o, a1, b1, b2, b3⟩
/-- the table of a body with handlers -/
theorem vx_table {p : Program} {x y : MethodName} {S : Spec} {cc bytes : ByteArray} {maxL maxL' : Nat} {ret ret' : Option FieldType} {e : Env} {s s₁ : State} {m : MethodId} {args : Array Value} {below : List Frame} {meth : Method} {c : Code} {hh : List (Nat × Nat × Nat × Nat)}
    (B : BodyLoose p l y S cc maxL ret e s m args below meth c s₁) (h : (Cond.codeWith y bytes maxL' ret' hh).before args s = true) : c.exceptionTable.toList = tableOf hh := by
  obtain ⟨m9, meth9, c9, hn9, h1, h2, -, -, h6, -⟩ := Cond.codeWith_spec h
  cases Option.some.inj (hn9.symm.trans B.named)
  cases Option.some.inj (h1.symm.trans B.method)
  cases Option.some.inj (h2.symm.trans (Stand.of_body B).code)
  rw [← h6, table_eq]
end Bodies
end VXA
/-! ===== END ===== -/
/-! ===== BEGIN a static call of a method with an exception table ===== -/
section VXS
variable {p : Program} {l : Launch} {e : Env} {R : Room} {s : State} {m : MethodId} {args : Array Value} {below : List Frame} {meth : Method} {c : Code} {T : State} {H : Heap} {locs : List Loc} {cells slots : Nat}
abbrev vx_CSW (R : Room) (s : State) (args : Array Value) (own : String) (index : Nat) (y : MethodName) (bytes : ByteArray) (maxL : Nat) (ret : Option FieldType) (hh : List (Nat × Nat × Nat × Nat)) (ws : List Cond) (rm : Room) (mc ms n : Nat) : Prop :=
  (rm.cells = mc ∧ rm.slots = ms ∧ rm.frames + 1 ≤ R.frames ∧ 8 + (maxL + 11) + rm.locals ≤ R.locals ∧ (∀ w ∈ ws, ∀ (a' : Array Value) (U : State), s.WarmedH U.vm → w.before a' U = true) ∧ Cond.codeWith y bytes maxL ret hh ∈ ws) ∧
  (Cond.codeWith y bytes maxL ret hh).before args s = true ∧ (Cond.initialized y.cls).before args s = true ∧ (y.cls ≠ "java/lang/invoke/MethodHandle" ∧ y.cls ≠ "java/lang/invoke/VarHandle") ∧
  (∀ sig, parseMethodDescriptor y.desc = some sig → n = sig.parameters.length) ∧ (Cond.methodLink own index y).before args s = true ∧ (Cond.static y).before args s = true
theorem vx_cwSW {own : String} {index maxL mc ms : Nat} {y : MethodName} {bytes : ByteArray} {ret : Option FieldType} {hh : List (Nat × Nat × Nat × Nat)} {Ts ws ws' : List Cond} {rm : Room} (n : Nat) (ht : ∀ w ∈ Ts, w.before args s = true) (hT : GoodIn Ts (va_wsS own index y ws)) (hw : ws = Cond.codeWith y bytes maxL ret hh :: ws') (hrc : rm.cells = mc) (hrs : rm.slots = ms)
    (hd : y.cls ≠ "java/lang/invoke/MethodHandle" ∧ y.cls ≠ "java/lang/invoke/VarHandle" ∧ (parseMethodDescriptor y.desc).map (fun d => d.parameters.length) = some n) (hR : rm.frames + 1 ≤ R.frames ∧ 8 + (maxL + 11) + rm.locals ≤ R.locals) :
    vx_CSW R s args own index y bytes maxL ret hh ws rm mc ms n := by
  have ok : ∀ w ∈ va_wsS own index y ws, w.before args s = true := fun w h => ht w (hT w h).1
  have hG : GoodIn Ts ws := fun w h => hT w (by unfold va_wsS; exact List.mem_append_right _ h)
  have hc : Cond.codeWith y bytes maxL ret hh ∈ ws := by rw [hw]; exact List.mem_cons_self
  refine ⟨⟨hrc, hrs, hR.1, hR.2, pay_in ht hG, hc⟩, ht _ (hG _ hc).1, ok _ (by simp [va_wsS]), ⟨hd.1, hd.2.1⟩, fun sig h => ?_, ok _ (by simp [va_wsS]), ok _ (by simp [va_wsS])⟩
  have h2 := hd.2.2
  rw [h] at h2
  exact (Option.some.inj h2).symm
theorem vx_callSW (X : Stand p l e R s m args below meth c T locs cells slots) (hexec : p.tables.exec = Jvm.exec) {own : String} {index : Nat} {y : MethodName} {bytes : ByteArray} {maxL : Nat} {ret : Option FieldType} {hh : List (Nat × Nat × Nat × Nat)}
    (hown : s.vm.findClass own = some m.cls) (hlink : (Cond.methodLink own index y).before args s = true) (hstat : (Cond.static y).before args s = true) (hinit : (Cond.initialized y.cls).before args s = true)
    (hcode : (Cond.codeWith y bytes maxL ret hh).before args s = true) (hy : y.cls ≠ "java/lang/invoke/MethodHandle" ∧ y.cls ≠ "java/lang/invoke/VarHandle")
    {W9 : Nat} {Pre : Pt → Array Value → Prop} {Post : Pt → Array Value → Option Value → Pt → Prop} (hK : Back l R p e below s args y 3 W9 Pre Post)
    {g : JFrame} (hg : g.method = m) (hsize : g.locals.size = c.maxLocals) {argsL rest : List Value} (hlen : ∀ sig, parseMethodDescriptor y.desc = some sig → argsL.length = sig.parameters.length)
    (hstack : g.stack = argsL.reverse ++ rest) (hW : 2 * g.monitorRoom + (rest.map fun v => v.category).sum ≤ W9) (hdg : decode c.code g.pc = .ok (.invokestatic index, 3))
    (hpre : ∀ vm₁, s.WarmedH vm₁ → Pre ⟨T.setVm vm₁, locs, cells, slots⟩ argsL.toArray) :
    ∃ (v : Option Value) (vm₁ : Vm) (B : Pt), s.WarmedH vm₁ ∧ Stand p l e R s m args below meth c B.U B.locs B.cells B.slots ∧ Post ⟨T.setVm vm₁, locs, cells, slots⟩ argsL.toArray v B ∧
      ∀ target, Steps p.tables e below (B.U.setTop { g with pc := g.pc + 3, stack := v.toList ++ rest }) target → Steps p.tables e below (T.setTop g) target := by
  obtain ⟨mk, methM, cM, hnamed, hmethM, -, -, -, -, -, -, hsigM⟩ := Cond.codeWith_spec hcode
  have hstatic : methM.isStatic = true := Cond.static_spec hnamed hmethM hstat
  obtain ⟨kP, hkP, -⟩ := className_of_methodNamed hnamed
  have hinitP : kP.init = .initialized := Cond.initialized_spec (findClass_of_methodNamed hnamed) hkP hinit
  obtain ⟨vm₁, X₁, hstep₁⟩ := X.invokestatic hexec hown hlink hnamed hmethM hstatic hkP hinitP hy (g := g) hg (argsL := argsL) (rest := rest) (hlen _ hsigM) hstack hdg
  obtain ⟨v, B, X', hpost, hsteps⟩ := hK m meth c ⟨T.setVm vm₁, locs, cells, slots⟩ { g with stack := rest } (.invokestatic index) mk argsL.toArray X₁ hg hsize hdg hW (X₁.named hnamed) (hpre vm₁ X₁.warmed)
  exact ⟨v, vm₁, B, X₁.warmed, X', hpost, fun target h => hstep₁ _ fun acts => by rw [doInvoke_state]; exact hsteps.trans h⟩
theorem vx_runSW {y : MethodName} {bytes cc : ByteArray} {maxL nL mc ms n index : Nat} {ret : Option FieldType} {hh : List (Nat × Nat × Nat × Nat)} {ws : List Cond} {rm : Room} {Pc : Array Value → State → Prop} {Qc : Array Value → State → Outcome → State → Prop} {free : Addr → Prop} {Ts : List Cond} {own : String} {As rest : List Value} {g : JFrame}
    (S : CallFix p m c cc nL s args Ts own) (hM : Met l y ws rm Pc Qc mc ms free) (cw : vx_CSW R s args own index y bytes maxL ret hh ws rm mc ms n) (hp : PreS s H Pc As)
    (hg : g.method = m) (hn : As.length = n) (hsize : g.locals.size = nL) (hstack : g.stack = As.reverse ++ rest) (hW : 2 * g.monitorRoom + (rest.map fun v => v.category).sum ≤ 8) (hdg : decode cc g.pc = .ok (.invokestatic index, 3)) (hf : cells + mc ≤ R.cells ∧ slots + ms ≤ R.slots) :
    va_Run p l e R s m args below meth c H locs cells slots mc ms g rest (Qc As.toArray) (free) := by
  obtain ⟨⟨hrc, hrs, hfr, hlo, hws, hcw⟩, hcode, hini, hy, hlen, hl, hstt⟩ := cw
  have hK : Back l R p e below s args y 3 8 (PreOf R mc ms Pc) (PostOf Qc mc ms free) := va_backW (hh := hh) (bytes := bytes) (maxL := maxL) (ret := ret) hM hp.1 hrc hrs hfr hlo hws hcw (fun a' U hW => word_at hW (Or.inl (by first | rfl | simp [Cond.onTables, Cond.keeps, Cond.steady])) hini)
  obtain ⟨hx, hb, hml, ho, -⟩ := S
  intro T hT X
  obtain ⟨v, vm₁, ⟨U', l2, c2, s2⟩, hW₁, X', ⟨g', mk, t, L, e1, e2, hq, h1, hL, h2, h3⟩, st⟩ := vx_callSW X hx (hh := hh) (bytes := bytes) (maxL := maxL) (ret := ret) ho hl hstt hini hcode hy hK hg (hsize.trans hml.symm) (argsL := As) (rest := rest) (fun sig h => hn.trans (hlen sig h)) hstack hW (by rw [hb]; exact hdg)
    (fun vm₁ hW₁ => ⟨hf.1, hf.2, hp.2 (T.setVm vm₁) hT hW₁⟩)
  dsimp only [Pt.U, Pt.locs, Pt.cells, Pt.slots] at X' e1 e2 h1 h2 h3 st
  subst h1; subst h2; subst h3
  exact ⟨v, (T.setVm vm₁).calling g' mk As.toArray, t, U', L, hT, X', hL, e1, e2, hq, st⟩
/-- not caught here, past rows that name other classes: it goes on to the caller -/
theorem vx_outP {p : Program} {l : Launch} {e : Env} {R : Room} {s : State} {m : MethodId} {args : Array Value} {below : List Frame} {meth : Method} {c : Code} {H : Heap} {locs : List Loc} {cells slots : Nat} {free : Addr → Prop} {ls : Array Slot} {rest : List Value} {Qc : Array Value → State → Outcome → State → Prop} {XC : String → State → State → Prop}
    {pc : Nat} {own E : String} {ce : Cell} {q : Addr} {mc ms : Nat} (hown : s.vm.findClass own = some m.cls) (hlocks : meth.locks = false)
    (hpass : ∀ z ∈ c.exceptionTable.toList, covers z pc = false ∨ (z.catchType ≠ 0 ∧ ∃ nm : String, (Cond.classLink own z.catchType nm).before args s = true ∧ va_Nc E nm s)) (hcell : H[q]? = some ce) (hv : ce.vm = .none) (hcl : s.vm.findClass E = some ce.cls)
    (hx : ∀ t : State, t.heap = H → s.vm.Alike t.vm → XC E s t) (hf : ∀ z ∈ locs, free z.base) (hc : cells ≤ mc) (hs : slots ≤ ms) :
    vx_W p l e R s m args below meth c H locs cells slots (vx_MQ below Qc XC args s mc ms free) (F0 m pc ls rest) q := by
  intro T hT X
  have hpl : e.platform.magicAccessors = ({} : Platform).magicAccessors := by rw [X.admits.platform]
  obtain ⟨vm', hW', X', st⟩ := X.outThrough hlocks q (g := F0 m pc ls rest) rfl rfl rfl (cell := ce) (by rw [hT]; exact hcell) (by rw [hv]; rfl)
    (by obtain ⟨k9, h9, -⟩ := Vm.findClass_spec hcl; exact ⟨k9, h9⟩) (fun z hz => by
      rcases hpass z hz with h | ⟨hz0, nm, hl1, hn1⟩
      · exact Or.inl h
      · obtain ⟨c6, hc6, hcl6⟩ := Cond.classLink_spec hown hl1 e.platform hpl
        obtain ⟨a8, b8, h1, h2, h3⟩ := hn1
        cases Option.some.inj (h1.symm.trans hcl)
        cases Option.some.inj (h2.symm.trans hc6)
        exact Or.inr ⟨hz0, _, hcl6, h3⟩)
  obtain ⟨g₀, hfr⟩ := X'.frames_eq
  have hcell9 : ((T.setVm vm').setFrames (.throwing q :: below)).heap[q]? = some ce := by
    show T.heap[q]? = some ce
    rw [hT]; exact hcell
  have hend : Ended ((T.setVm vm').setFrames (.throwing q :: below)) below (.threw q) := State.frames_setFrames _ (State.cur_lt_of_frames hfr)
  refine ⟨(T.setVm vm').setFrames (.throwing q :: below), ?_, .threw q, X'.here.running, hend, Or.inr ⟨q, rfl, E, ce, locs, hx _ hT (X'.ends _).1.alike, hcell9, hv, hcl, (X'.ends _).1, (X'.ends _).2.mono hc hs, hf⟩⟩
  rw [X.pushThrowing_eq]
  exact st
/-- a thing of a world lies in the heap -/
theorem vx_lt {D : va_G} {cl : List vw_C} {ws : va_W} {H1 : Heap} (h : va_P D cl ws H1) {k : Nat} {q : Nat × va_E} (hk : ws[k]? = some q) : q.1 < H1.size := (h k q hk).lt
end VXS
/-! ===== END ===== -/
/-! ===== BEGIN methods with a table of their own: called by a name, returning or throwing ===== -/
section VXH
/-! vx_backW, vx_callVX, vx_callSX, vx_callVW, vx_runVW, vx_runVX, vx_runSX, vx_ofWH follow the same proofs as their sisters above (Free/Laws.lean, Shelf42/LK1.lean); vx_outP calls Shelf42/NT130.lean (outThrough). -/
section
variable {l : Launch} {R : Room} {p : Program} {e : Env} {below : List Frame} {s : State} {sargs : Array Value} {y : MethodName} {len W9 : Nat}
theorem vx_backW {ws : List Cond} {rm : Room} {Pc : Array Value → State → Prop} {Qc : Array Value → State → Outcome → State → Prop} {XC : String → State → State → Prop} {mc ms : Nat} {free : Addr → Prop} {bytes : ByteArray} {maxL : Nat} {ret : Option FieldType} {hh : List (Nat × Nat × Nat × Nat)}
    (hM : vx_Met l y ws rm Pc Qc XC mc ms free) (hblind : FrameBlind Pc) (hrc : rm.cells = mc) (hrs : rm.slots = ms)
    (hframes : rm.frames + 1 ≤ R.frames) (hlocals : W9 + (maxL + 11) + rm.locals ≤ R.locals)
    (hws : ∀ w ∈ ws, ∀ a' U, s.WarmedH U.vm → w.before a' U = true) (hcode : Cond.codeWith y bytes maxL ret hh ∈ ws) (hinit : ∀ a' U, s.WarmedH U.vm → (Cond.initialized y.cls).before a' U = true) :
    vx_Back l R p e below s sargs y len W9 (PreOf R mc ms Pc) (PostOf Qc mc ms free) (vx_Post XC mc ms free) := by
  intro m meth c A g ig mk a X hg hsize hdg hW hn hp
  have h1 : (headSpec ws rm).pre.before a A.U = true := atoms_intro fun w hw => hws w hw _ _ X.warmed
  have h2 : (Cond.codeWith y bytes maxL ret hh).before a A.U = true := hws _ hcode _ _ X.warmed
  have h3 : (Cond.initialized y.cls).before a A.U = true := hinit _ _ X.warmed
  have h4 : A.cells + (headSpec ws rm).room.cells ≤ R.cells := by rw [show (headSpec ws rm).room.cells = mc from hrc]; exact hp.1
  have h5 : A.slots + (headSpec ws rm).room.slots ≤ R.slots := by rw [show (headSpec ws rm).room.slots = ms from hrs]; exact hp.2.1
  have hPc : Pc a (A.U.calling g mk a) := hblind _ _ _ _ hp.2.2
  obtain ⟨U, Ls, c0, s0⟩ := A
  dsimp only [Pt.U, Pt.locs, Pt.cells, Pt.slots] at h1 h2 h3 h4 h5 X hn hPc ⊢
  obtain ⟨m9, methY, cY, hn9, hmY, hcY, -, hlY, -⟩ := Cond.codeWith_spec h2
  cases Option.some.inj (hn9.symm.trans hn)
  obtain ⟨kY, hkY, -⟩ := className_of_methodNamed hn
  have hinitY : kY.init = .initialized := Cond.initialized_spec (findClass_of_methodNamed hn) hkY h3
  have h : At U g.method c below := by rw [hg]; exact X.here
  have hlocals9 : W9 + (maxL + 11) + (headSpec ws rm).room.locals ≤ R.locals := hlocals
  have happ : (headSpec ws rm).appliesLoose y e.platform (U.calling g mk a) = true :=
    Spec.appliesLoose_calling (g := g) h hdg hn hkY hinitY
      (X.room_calling (g := g) (R' := (headSpec ws rm).room) hsize hmY hcY hframes (by rw [hlY]; omega) h4 h5) h1
  obtain ⟨mid, hmid⟩ := h.above
  have hfr : (U.setTop g).frames = (.java g :: mid) ++ below := by rw [State.frames_setTop' g h.top, hmid]; rfl
  obtain ⟨o, s₂, hsteps, -, hend, hq⟩ := Steps.callFree hM p X.admits X.cas X.clock (acts := []) hfr happ hPc trivial
  have hq' : vx_Q Qc XC mc ms free a (U.calling g mk a) o s₂ := hq
  rw [State.frames_setTop' g h.top] at hend
  obtain ⟨g₀, hg0⟩ := Option.isSome_iff_exists.mp h.top
  obtain ⟨r, hr⟩ := State.topJava?_eq_some.mp hg0
  have hr' : (({ U with heap := s₂.heap, slotsUsed := s₂.slotsUsed } : State).setVm s₂.vm).frames = .java g₀ :: r := hr
  rcases hq' with ⟨hqc, L, hfe, hL⟩ | ⟨q, rfl, E, ce, L, hx, hce, hcv, hcl, hW₂, hsm, hL⟩
  · obtain ⟨⟨v, rfl⟩, hW₂, e2, q2, q3, q4, q5, q6⟩ := id hfe
    have e3 : s₂ = ({ (U.calling g mk a).setFrames s₂.frames with heap := s₂.heap, slotsUsed := s₂.slotsUsed } : State).setVm s₂.vm := by
      have : s₂ = ({ s₂ with vm := (U.calling g mk a).vm } : State).setVm s₂.vm := rfl
      rw [e2] at this
      exact this
    obtain ⟨c₂, i₂, len₂, hc₂, hd₂, hf₂⟩ := hend
    have hW' : U.WarmedH s₂.vm := hW₂
    have hcc : c₂ = c := by
      have h1 : s₂.code? g.method = U.code? g.method := by
        rw [State.code?_eq, State.code?_eq, hW'.alike.method?]
      exact Option.some.inj (hc₂.symm.trans (h1.trans h.code))
    subst hcc
    have hlen : len₂ = len := by rw [hdg] at hd₂; cases hd₂; rfl
    subst hlen
    have hs₂ : s₂ = (({ U with heap := s₂.heap, slotsUsed := s₂.slotsUsed } : State).setVm s₂.vm).setTop { g with pc := g.pc + len₂, stack := v.toList ++ g.stack } := by
      refine e3.trans ?_
      rw [hf₂, State.calling_eq h.top, State.setFrames_setFrames, State.setTop_of_frames _ hr', hr]
      rfl
    have hsame : U.sameButNew ({ U with heap := s₂.heap, slotsUsed := s₂.slotsUsed } : State) L mc ms := by
      refine ⟨?_, q2, q3, q4, q5, q6⟩
      obtain ⟨t, ht, -⟩ := State.frames_cons hr
      show ({ U with heap := s₂.heap, slotsUsed := s₂.slotsUsed } : State) = { U.setFrames U.frames with heap := s₂.heap, slotsUsed := s₂.slotsUsed }
      rw [State.setFrames_self ht]
    subst hg
    refine Or.inl ⟨v, ⟨(({ U with heap := s₂.heap, slotsUsed := s₂.slotsUsed } : State).setVm s₂.vm), Ls ++ L, c0 + mc, s0 + ms⟩,
      ⟨X.admits, X.cas, X.clock, X.frames, X.room, X.hears, X.method, X.code, (X.here.setHeapUsed s₂.heap s₂.slotsUsed).setVm hW'.alike, X.tail, State.WarmedH.trans X.warmed hW', X.limits, X.bytes, X.same.trans (hsame.setVm s.vm)⟩,
      ⟨g, mk, s₂, L, rfl, rfl, hqc, rfl, hL, rfl, rfl⟩, ?_⟩
    show Steps p.tables e below _ ((({ U with heap := s₂.heap, slotsUsed := s₂.slotsUsed } : State).setVm s₂.vm).setTop { g with pc := g.pc + len₂, stack := v.toList ++ g.stack })
    rw [← hs₂]
    exact hsteps
  · obtain ⟨e2, q2, q3, q4, q5, q6⟩ := id hsm
    have e3 : s₂ = ({ (U.calling g mk a).setFrames s₂.frames with heap := s₂.heap, slotsUsed := s₂.slotsUsed } : State).setVm s₂.vm := by
      have : s₂ = ({ s₂ with vm := (U.calling g mk a).vm } : State).setVm s₂.vm := rfl
      rw [e2] at this
      exact this
    have hf₂ : s₂.frames = .throwing q :: .java g :: U.frames.tail := hend
    have hW' : U.WarmedH s₂.vm := hW₂
    have hs₂ : s₂ = ((({ U with heap := s₂.heap, slotsUsed := s₂.slotsUsed } : State).setVm s₂.vm).setTop g).pushFrame (.throwing q) := by
      refine e3.trans ?_
      rw [hf₂, State.calling_eq h.top, State.setFrames_setFrames, State.pushFrame, State.frames_setTop _ hr', State.setTop_of_frames _ hr', State.setFrames_setFrames, hr]
      rfl
    have hsame : U.sameButNew ({ U with heap := s₂.heap, slotsUsed := s₂.slotsUsed } : State) L mc ms := by
      refine ⟨?_, q2, q3, q4, q5, q6⟩
      obtain ⟨t, ht, -⟩ := State.frames_cons hr
      show ({ U with heap := s₂.heap, slotsUsed := s₂.slotsUsed } : State) = { U.setFrames U.frames with heap := s₂.heap, slotsUsed := s₂.slotsUsed }
      rw [State.setFrames_self ht]
    subst hg
    refine Or.inr ⟨q, ⟨(({ U with heap := s₂.heap, slotsUsed := s₂.slotsUsed } : State).setVm s₂.vm), Ls ++ L, c0 + mc, s0 + ms⟩,
      ⟨X.admits, X.cas, X.clock, X.frames, X.room, X.hears, X.method, X.code, (X.here.setHeapUsed s₂.heap s₂.slotsUsed).setVm hW'.alike, X.tail, State.WarmedH.trans X.warmed hW', X.limits, X.bytes, X.same.trans (hsame.setVm s.vm)⟩,
      ⟨g, mk, s₂, L, E, ce, rfl, rfl, hx, hce, hcv, hcl, rfl, hL, rfl, rfl⟩, ?_⟩
    show Steps p.tables e below _ (((({ U with heap := s₂.heap, slotsUsed := s₂.slotsUsed } : State).setVm s₂.vm).setTop g).pushFrame (.throwing q))
    rw [← hs₂]
    exact hsteps
end
variable {p : Program} {l : Launch} {e : Env} {R : Room} {s : State} {m : MethodId} {args : Array Value} {below : List Frame} {meth : Method} {c : Code} {T : State} {H : Heap} {locs : List Loc} {cells slots : Nat}
theorem vx_callVX (X : Stand p l e R s m args below meth c T locs cells slots) (hexec : p.tables.exec = Jvm.exec) {own C : String} {index : Nat} {y : MethodName} {bytes : ByteArray} {maxL : Nat} {ret : Option FieldType} {hh : List (Nat × Nat × Nat × Nat)}
    (hown : s.vm.findClass own = some m.cls) (hlink : (Cond.methodLink own index y).before args s = true) (hinst : (Cond.instanceMethod y).before args s = true) (hsel : (Cond.selects C y y).before args s = true)
    (hcode : (Cond.codeWith y bytes maxL ret hh).before args s = true) (hy : y.cls ≠ "java/lang/invoke/MethodHandle" ∧ y.cls ≠ "java/lang/invoke/VarHandle")
    {W9 : Nat} {Pre : Pt → Array Value → Prop} {Post : Pt → Array Value → Option Value → Pt → Prop} {PostX : Pt → Array Value → Addr → Pt → Prop} (hK : vx_Back l R p e below s args y 3 W9 Pre Post PostX)
    {b : Addr} {cellB : Cell} (hcell : T.heap[b]? = some cellB) (hobj : cellB.vm.isStatics = false) (hcls : s.vm.findClass C = some cellB.cls)
    {g : JFrame} (hg : g.method = m) (hsize : g.locals.size = c.maxLocals) {argsL rest : List Value} (hlen : ∀ sig, parseMethodDescriptor y.desc = some sig → argsL.length = sig.parameters.length)
    (hstack : g.stack = argsL.reverse ++ .ref b :: rest) (hW : 2 * g.monitorRoom + (rest.map fun v => v.category).sum ≤ W9) (hdg : decode c.code g.pc = .ok (.invokevirtual index, 3))
    (hpre : ∀ vm₁, s.WarmedH vm₁ → Pre ⟨T.setVm vm₁, locs, cells, slots⟩ (Value.ref b :: argsL).toArray) :
    (∃ (v : Option Value) (vm₁ : Vm) (B : Pt), s.WarmedH vm₁ ∧ Stand p l e R s m args below meth c B.U B.locs B.cells B.slots ∧ Post ⟨T.setVm vm₁, locs, cells, slots⟩ (Value.ref b :: argsL).toArray v B ∧
      ∀ target, Steps p.tables e below (B.U.setTop { g with pc := g.pc + 3, stack := v.toList ++ rest }) target → Steps p.tables e below (T.setTop g) target) ∨
    (∃ (q : Addr) (vm₁ : Vm) (B : Pt), s.WarmedH vm₁ ∧ Stand p l e R s m args below meth c B.U B.locs B.cells B.slots ∧ PostX ⟨T.setVm vm₁, locs, cells, slots⟩ (Value.ref b :: argsL).toArray q B ∧
      Steps p.tables e below (T.setTop g) ((B.U.setTop { g with stack := rest }).pushFrame (.throwing q))) := by
  obtain ⟨mk, methM, hnamed, hmethM, hstM, habM⟩ := Cond.instanceMethod_spec hinst
  obtain ⟨m8, methM', cM, hn8, hmethM', -, -, -, -, -, -, hsigM⟩ := Cond.codeWith_spec hcode
  cases Option.some.inj (hn8.symm.trans hnamed)
  cases hmethM.symm.trans hmethM'
  obtain ⟨c2, r2, m2, q1, q2, q3, q4, kP, hkP, hkPi⟩ := Cond.selects_spec hsel
  cases hcls.symm.trans q1
  cases (State.methodFound?_of_named hnamed hy).symm.trans q2
  cases hnamed.symm.trans q3
  have hselP : selectMethod e.platform s.vm cellB.cls mk = .method mk := by rw [Launch.admits_selectMethod X.admits]; exact q4
  obtain ⟨vm₁, X₁, hstep₁⟩ := X.invokevirtual hexec hown hlink hnamed hmethM hstM hkP hkPi hy (a := b) (cell := cellB) hcell
    (fun z h => by rw [h] at hobj; cases hobj) hselP hmethM habM hkP hkPi (g := g) hg (argsL := argsL) (rest := rest) (hlen _ hsigM) hstack hdg
  rcases hK m meth c ⟨T.setVm vm₁, locs, cells, slots⟩ { g with stack := rest } (.invokevirtual index) mk (Value.ref b :: argsL).toArray X₁ hg hsize hdg hW (X₁.named hnamed) (hpre vm₁ X₁.warmed) with ⟨v, B, X', hpost, hsteps⟩ | ⟨q, B, X', hpost, hsteps⟩
  · exact Or.inl ⟨v, vm₁, B, X₁.warmed, X', hpost, fun target h => hstep₁ _ fun acts => by rw [doInvoke_state]; exact hsteps.trans h⟩
  · exact Or.inr ⟨q, vm₁, B, X₁.warmed, X', hpost, hstep₁ _ fun acts => by rw [doInvoke_state]; exact hsteps⟩
theorem vx_callSX (X : Stand p l e R s m args below meth c T locs cells slots) (hexec : p.tables.exec = Jvm.exec) {own : String} {index : Nat} {y : MethodName} {bytes : ByteArray} {maxL : Nat} {ret : Option FieldType} {hh : List (Nat × Nat × Nat × Nat)}
    (hown : s.vm.findClass own = some m.cls) (hlink : (Cond.methodLink own index y).before args s = true) (hstat : (Cond.static y).before args s = true) (hinit : (Cond.initialized y.cls).before args s = true)
    (hcode : (Cond.codeWith y bytes maxL ret hh).before args s = true) (hy : y.cls ≠ "java/lang/invoke/MethodHandle" ∧ y.cls ≠ "java/lang/invoke/VarHandle")
    {W9 : Nat} {Pre : Pt → Array Value → Prop} {Post : Pt → Array Value → Option Value → Pt → Prop} {PostX : Pt → Array Value → Addr → Pt → Prop} (hK : vx_Back l R p e below s args y 3 W9 Pre Post PostX)
    {g : JFrame} (hg : g.method = m) (hsize : g.locals.size = c.maxLocals) {argsL rest : List Value} (hlen : ∀ sig, parseMethodDescriptor y.desc = some sig → argsL.length = sig.parameters.length)
    (hstack : g.stack = argsL.reverse ++ rest) (hW : 2 * g.monitorRoom + (rest.map fun v => v.category).sum ≤ W9) (hdg : decode c.code g.pc = .ok (.invokestatic index, 3))
    (hpre : ∀ vm₁, s.WarmedH vm₁ → Pre ⟨T.setVm vm₁, locs, cells, slots⟩ argsL.toArray) :
    (∃ (v : Option Value) (vm₁ : Vm) (B : Pt), s.WarmedH vm₁ ∧ Stand p l e R s m args below meth c B.U B.locs B.cells B.slots ∧ Post ⟨T.setVm vm₁, locs, cells, slots⟩ argsL.toArray v B ∧
      ∀ target, Steps p.tables e below (B.U.setTop { g with pc := g.pc + 3, stack := v.toList ++ rest }) target → Steps p.tables e below (T.setTop g) target) ∨
    (∃ (q : Addr) (vm₁ : Vm) (B : Pt), s.WarmedH vm₁ ∧ Stand p l e R s m args below meth c B.U B.locs B.cells B.slots ∧ PostX ⟨T.setVm vm₁, locs, cells, slots⟩ argsL.toArray q B ∧
      Steps p.tables e below (T.setTop g) ((B.U.setTop { g with stack := rest }).pushFrame (.throwing q))) := by
  obtain ⟨mk, methM, cM, hnamed, hmethM, -, -, -, -, -, -, hsigM⟩ := Cond.codeWith_spec hcode
  have hstatic : methM.isStatic = true := Cond.static_spec hnamed hmethM hstat
  obtain ⟨kP, hkP, -⟩ := className_of_methodNamed hnamed
  have hinitP : kP.init = .initialized := Cond.initialized_spec (findClass_of_methodNamed hnamed) hkP hinit
  obtain ⟨vm₁, X₁, hstep₁⟩ := X.invokestatic hexec hown hlink hnamed hmethM hstatic hkP hinitP hy (g := g) hg (argsL := argsL) (rest := rest) (hlen _ hsigM) hstack hdg
  rcases hK m meth c ⟨T.setVm vm₁, locs, cells, slots⟩ { g with stack := rest } (.invokestatic index) mk argsL.toArray X₁ hg hsize hdg hW (X₁.named hnamed) (hpre vm₁ X₁.warmed) with ⟨v, B, X', hpost, hsteps⟩ | ⟨q, B, X', hpost, hsteps⟩
  · exact Or.inl ⟨v, vm₁, B, X₁.warmed, X', hpost, fun target h => hstep₁ _ fun acts => by rw [doInvoke_state]; exact hsteps.trans h⟩
  · exact Or.inr ⟨q, vm₁, B, X₁.warmed, X', hpost, hstep₁ _ fun acts => by rw [doInvoke_state]; exact hsteps⟩
theorem vx_callVW (X : Stand p l e R s m args below meth c T locs cells slots) (hexec : p.tables.exec = Jvm.exec) {own C : String} {index : Nat} {y : MethodName} {bytes : ByteArray} {maxL : Nat} {ret : Option FieldType} {hh : List (Nat × Nat × Nat × Nat)}
    (hown : s.vm.findClass own = some m.cls) (hlink : (Cond.methodLink own index y).before args s = true) (hinst : (Cond.instanceMethod y).before args s = true) (hsel : (Cond.selects C y y).before args s = true)
    (hcode : (Cond.codeWith y bytes maxL ret hh).before args s = true) (hy : y.cls ≠ "java/lang/invoke/MethodHandle" ∧ y.cls ≠ "java/lang/invoke/VarHandle")
    {W9 : Nat} {Pre : Pt → Array Value → Prop} {Post : Pt → Array Value → Option Value → Pt → Prop} (hK : Back l R p e below s args y 3 W9 Pre Post)
    {b : Addr} {cellB : Cell} (hcell : T.heap[b]? = some cellB) (hobj : cellB.vm.isStatics = false) (hcls : s.vm.findClass C = some cellB.cls)
    {g : JFrame} (hg : g.method = m) (hsize : g.locals.size = c.maxLocals) {argsL rest : List Value} (hlen : ∀ sig, parseMethodDescriptor y.desc = some sig → argsL.length = sig.parameters.length)
    (hstack : g.stack = argsL.reverse ++ .ref b :: rest) (hW : 2 * g.monitorRoom + (rest.map fun v => v.category).sum ≤ W9) (hdg : decode c.code g.pc = .ok (.invokevirtual index, 3))
    (hpre : ∀ vm₁, s.WarmedH vm₁ → Pre ⟨T.setVm vm₁, locs, cells, slots⟩ (Value.ref b :: argsL).toArray) :
    ∃ (v : Option Value) (vm₁ : Vm) (B : Pt), s.WarmedH vm₁ ∧ Stand p l e R s m args below meth c B.U B.locs B.cells B.slots ∧ Post ⟨T.setVm vm₁, locs, cells, slots⟩ (Value.ref b :: argsL).toArray v B ∧
      ∀ target, Steps p.tables e below (B.U.setTop { g with pc := g.pc + 3, stack := v.toList ++ rest }) target → Steps p.tables e below (T.setTop g) target := by
  obtain ⟨mk, methM, hnamed, hmethM, hstM, habM⟩ := Cond.instanceMethod_spec hinst
  obtain ⟨m8, methM', cM, hn8, hmethM', -, -, -, -, -, -, hsigM⟩ := Cond.codeWith_spec hcode
  cases Option.some.inj (hn8.symm.trans hnamed)
  cases hmethM.symm.trans hmethM'
  obtain ⟨c2, r2, m2, q1, q2, q3, q4, kP, hkP, hkPi⟩ := Cond.selects_spec hsel
  cases hcls.symm.trans q1
  cases (State.methodFound?_of_named hnamed hy).symm.trans q2
  cases hnamed.symm.trans q3
  have hselP : selectMethod e.platform s.vm cellB.cls mk = .method mk := by rw [Launch.admits_selectMethod X.admits]; exact q4
  obtain ⟨vm₁, X₁, hstep₁⟩ := X.invokevirtual hexec hown hlink hnamed hmethM hstM hkP hkPi hy (a := b) (cell := cellB) hcell
    (fun z h => by rw [h] at hobj; cases hobj) hselP hmethM habM hkP hkPi (g := g) hg (argsL := argsL) (rest := rest) (hlen _ hsigM) hstack hdg
  obtain ⟨v, B, X', hpost, hsteps⟩ := hK m meth c ⟨T.setVm vm₁, locs, cells, slots⟩ { g with stack := rest } (.invokevirtual index) mk (Value.ref b :: argsL).toArray X₁ hg hsize hdg hW (X₁.named hnamed) (hpre vm₁ X₁.warmed)
  exact ⟨v, vm₁, B, X₁.warmed, X', hpost, fun target h => hstep₁ _ fun acts => by rw [doInvoke_state]; exact hsteps.trans h⟩
abbrev vx_CVW (R : Room) (s : State) (args : Array Value) (own C : String) (index : Nat) (y : MethodName) (bytes : ByteArray) (maxL : Nat) (ret : Option FieldType) (hh : List (Nat × Nat × Nat × Nat)) (ws : List Cond) (rm : Room) (mc ms n : Nat) : Prop :=
  (rm.cells = mc ∧ rm.slots = ms ∧ rm.frames + 1 ≤ R.frames ∧ 8 + (maxL + 11) + rm.locals ≤ R.locals ∧ (∀ w ∈ ws, ∀ (a' : Array Value) (U : State), s.WarmedH U.vm → w.before a' U = true) ∧ Cond.codeWith y bytes maxL ret hh ∈ ws) ∧
  (Cond.codeWith y bytes maxL ret hh).before args s = true ∧ (Cond.initialized y.cls).before args s = true ∧ (y.cls ≠ "java/lang/invoke/MethodHandle" ∧ y.cls ≠ "java/lang/invoke/VarHandle") ∧
  (∀ sig, parseMethodDescriptor y.desc = some sig → n = sig.parameters.length) ∧ (Cond.methodLink own index y).before args s = true ∧ (Cond.instanceMethod y).before args s = true ∧ (Cond.selects C y y).before args s = true
theorem vx_cwVW {own C : String} {index maxL mc ms : Nat} {y : MethodName} {bytes : ByteArray} {ret : Option FieldType} {hh : List (Nat × Nat × Nat × Nat)} {Ts ws ws' : List Cond} {rm : Room} (n : Nat) (ht : ∀ w ∈ Ts, w.before args s = true) (hT : GoodIn Ts (wsV own index C y ws)) (hw : ws = Cond.codeWith y bytes maxL ret hh :: ws') (hrc : rm.cells = mc) (hrs : rm.slots = ms)
    (hd : y.cls = C ∧ y.cls ≠ "java/lang/invoke/MethodHandle" ∧ y.cls ≠ "java/lang/invoke/VarHandle" ∧ (parseMethodDescriptor y.desc).map (fun d => d.parameters.length) = some n) (hR : rm.frames + 1 ≤ R.frames ∧ 8 + (maxL + 11) + rm.locals ≤ R.locals) :
    vx_CVW R s args own C index y bytes maxL ret hh ws rm mc ms n := by
  obtain ⟨hC, hd⟩ := hd
  subst hC
  have ok : ∀ w ∈ wsV own index y.cls y ws, w.before args s = true := fun w h => ht w (hT w h).1
  have hG : GoodIn Ts ws := fun w h => hT w (by unfold wsV; exact List.mem_append_right _ h)
  have hc : Cond.codeWith y bytes maxL ret hh ∈ ws := by rw [hw]; exact List.mem_cons_self
  refine ⟨⟨hrc, hrs, hR.1, hR.2, pay_in ht hG, hc⟩, ht _ (hG _ hc).1, ok _ (by simp [wsV]), ⟨hd.1, hd.2.1⟩, fun sig h => ?_, ok _ (by simp [wsV]), ok _ (by simp [wsV]), ok _ (by simp [wsV])⟩
  have h2 := hd.2.2
  rw [h] at h2
  exact (Option.some.inj h2).symm
theorem vx_runVW {y : MethodName} {bytes cc : ByteArray} {maxL nL mc ms n index : Nat} {ret : Option FieldType} {hh : List (Nat × Nat × Nat × Nat)} {ws : List Cond} {rm : Room} {Pc : Array Value → State → Prop} {Qc : Array Value → State → Outcome → State → Prop} {free : Addr → Prop} {Ts : List Cond} {own C : String} {b : Addr} {As rest : List Value} {g : JFrame}
    (S : CallFix p m c cc nL s args Ts own) (hM : Met l y ws rm Pc Qc mc ms free) (cw : vx_CVW R s args own C index y bytes maxL ret hh ws rm mc ms n) (hp : PreV s H C b Pc As)
    (hg : g.method = m) (hn : As.length = n) (hsize : g.locals.size = nL) (hstack : g.stack = As.reverse ++ .ref b :: rest) (hW : 2 * g.monitorRoom + (rest.map fun v => v.category).sum ≤ 8) (hdg : decode cc g.pc = .ok (.invokevirtual index, 3)) (hf : cells + mc ≤ R.cells ∧ slots + ms ≤ R.slots) :
    va_Run p l e R s m args below meth c H locs cells slots mc ms g rest (Qc (Value.ref b :: As).toArray) free := by
  obtain ⟨⟨hrc, hrs, hfr, hlo, hws, hcw⟩, hcode, hini, hy, hlen, hl, hin, hse⟩ := cw
  have hK : Back l R p e below s args y 3 8 (PreOf R mc ms Pc) (PostOf Qc mc ms free) := va_backW (hh := hh) (bytes := bytes) (maxL := maxL) (ret := ret) hM hp.1 hrc hrs hfr hlo hws hcw (fun a' U hW => word_at hW (Or.inl (by first | rfl | simp [Cond.onTables, Cond.keeps, Cond.steady])) hini)
  obtain ⟨hx, hb, hml, ho, -⟩ := S
  obtain ⟨-, ⟨cellB, hcB, hoB, hclB⟩, hPc⟩ := hp
  intro T hT X
  obtain ⟨v, vm₁, ⟨U', l2, c2, s2⟩, hW₁, X', ⟨g', mk, t, L, e1, e2, hq, h1, hL, h2, h3⟩, st⟩ := vx_callVW X hx (C := C) (hh := hh) (bytes := bytes) (maxL := maxL) (ret := ret) ho hl hin hse hcode hy hK (by rw [hT]; exact hcB) hoB hclB hg (hsize.trans hml.symm) (argsL := As) (rest := rest) (fun sig h => hn.trans (hlen sig h)) hstack hW (by rw [hb]; exact hdg)
    (fun vm₁ hW₁ => ⟨hf.1, hf.2, hPc (T.setVm vm₁) hT hW₁⟩)
  dsimp only [Pt.U, Pt.locs, Pt.cells, Pt.slots] at X' e1 e2 h1 h2 h3 st
  subst h1; subst h2; subst h3
  exact ⟨v, (T.setVm vm₁).calling g' mk (Value.ref b :: As).toArray, t, U', L, hT, X', hL, e1, e2, hq, st⟩
section
variable {y : MethodName} {bytes cc : ByteArray} {maxL nL mc ms n index : Nat} {ret : Option FieldType} {ws : List Cond} {rm : Room} {Pc : Array Value → State → Prop} {Qc : Array Value → State → Outcome → State → Prop} {XC : String → State → State → Prop} {free : Addr → Prop} {Ts : List Cond} {own C : String} {b : Addr} {As rest : List Value} {g : JFrame}
theorem vx_runVX {hh : List (Nat × Nat × Nat × Nat)} (S : CallFix p m c cc nL s args Ts own) (hM : vx_Met l y ws rm Pc Qc XC mc ms free) (cw : vx_CVW R s args own C index y bytes maxL ret hh ws rm mc ms n) (hp : PreV s H C b Pc As)
    (hg : g.method = m) (hn : As.length = n) (hsize : g.locals.size = nL) (hstack : g.stack = As.reverse ++ .ref b :: rest) (hW : 2 * g.monitorRoom + (rest.map fun v => v.category).sum ≤ 8) (hdg : decode cc g.pc = .ok (.invokevirtual index, 3)) (hf : cells + mc ≤ R.cells ∧ slots + ms ≤ R.slots) :
    vx_Run p l e R s m args below meth c H locs cells slots mc ms g rest (Qc (Value.ref b :: As).toArray) XC free := by
  obtain ⟨⟨hrc, hrs, hfr, hlo, hws, hcw⟩, hcode, hini, hy, hlen, hl, hin, hse⟩ := cw
  have hK : vx_Back l R p e below s args y 3 8 (PreOf R mc ms Pc) (PostOf Qc mc ms free) (vx_Post XC mc ms free) := vx_backW (hh := hh) (bytes := bytes) (maxL := maxL) (ret := ret) hM hp.1 hrc hrs hfr hlo hws hcw (fun a' U hW => word_at hW (Or.inl (by first | rfl | simp [Cond.onTables, Cond.keeps, Cond.steady])) hini)
  obtain ⟨hx, hb, hml, ho, -⟩ := S
  obtain ⟨-, ⟨cellB, hcB, hoB, hclB⟩, hPc⟩ := hp
  intro T hT X
  rcases vx_callVX X hx (C := C) (hh := hh) (bytes := bytes) (maxL := maxL) (ret := ret) ho hl hin hse hcode hy hK (by rw [hT]; exact hcB) hoB hclB hg (hsize.trans hml.symm) (argsL := As) (rest := rest) (fun sig h => hn.trans (hlen sig h)) hstack hW (by rw [hb]; exact hdg)
    (fun vm₁ hW₁ => ⟨hf.1, hf.2, hPc (T.setVm vm₁) hT hW₁⟩) with ⟨v, vm₁, ⟨U', l2, c2, s2⟩, hW₁, X', ⟨g', mk, t, L, e1, e2, hq, h1, hL, h2, h3⟩, st⟩ | ⟨q, vm₁, ⟨U', l2, c2, s2⟩, hW₁, X', ⟨g', mk, t, L, E, ce, e1, e2, hq, hce, hcv, hcl, h1, hL, h2, h3⟩, st⟩
  · dsimp only [Pt.U, Pt.locs, Pt.cells, Pt.slots] at X' e1 e2 h1 h2 h3 st
    subst h1; subst h2; subst h3
    exact Or.inl ⟨v, (T.setVm vm₁).calling g' mk (Value.ref b :: As).toArray, t, U', L, hT, X', hL, e1, e2, hq, st⟩
  · dsimp only [Pt.U, Pt.locs, Pt.cells, Pt.slots] at X' e1 e2 h1 h2 h3 st hcl
    subst h1; subst h2; subst h3
    exact Or.inr ⟨q, (T.setVm vm₁).calling g' mk (Value.ref b :: As).toArray, t, U', L, E, ce, hT, X', hL, e1, e2, hq, hce, hcv, vx_cls hW₁ hcl, st⟩
theorem vx_runSX {hh : List (Nat × Nat × Nat × Nat)} (S : CallFix p m c cc nL s args Ts own) (hM : vx_Met l y ws rm Pc Qc XC mc ms free) (cw : vx_CSW R s args own index y bytes maxL ret hh ws rm mc ms n) (hp : PreS s H Pc As)
    (hg : g.method = m) (hn : As.length = n) (hsize : g.locals.size = nL) (hstack : g.stack = As.reverse ++ rest) (hW : 2 * g.monitorRoom + (rest.map fun v => v.category).sum ≤ 8) (hdg : decode cc g.pc = .ok (.invokestatic index, 3)) (hf : cells + mc ≤ R.cells ∧ slots + ms ≤ R.slots) :
    vx_Run p l e R s m args below meth c H locs cells slots mc ms g rest (Qc As.toArray) XC free := by
  obtain ⟨⟨hrc, hrs, hfr, hlo, hws, hcw⟩, hcode, hini, hy, hlen, hl, hstt⟩ := cw
  have hK : vx_Back l R p e below s args y 3 8 (PreOf R mc ms Pc) (PostOf Qc mc ms free) (vx_Post XC mc ms free) := vx_backW (hh := hh) (bytes := bytes) (maxL := maxL) (ret := ret) hM hp.1 hrc hrs hfr hlo hws hcw (fun a' U hW => word_at hW (Or.inl (by first | rfl | simp [Cond.onTables, Cond.keeps, Cond.steady])) hini)
  obtain ⟨hx, hb, hml, ho, -⟩ := S
  intro T hT X
  rcases vx_callSX X hx (hh := hh) (bytes := bytes) (maxL := maxL) (ret := ret) ho hl hstt hini hcode hy hK hg (hsize.trans hml.symm) (argsL := As) (rest := rest) (fun sig h => hn.trans (hlen sig h)) hstack hW (by rw [hb]; exact hdg)
    (fun vm₁ hW₁ => ⟨hf.1, hf.2, hp.2 (T.setVm vm₁) hT hW₁⟩) with ⟨v, vm₁, ⟨U', l2, c2, s2⟩, hW₁, X', ⟨g', mk, t, L, e1, e2, hq, h1, hL, h2, h3⟩, st⟩ | ⟨q, vm₁, ⟨U', l2, c2, s2⟩, hW₁, X', ⟨g', mk, t, L, E, ce, e1, e2, hq, hce, hcv, hcl, h1, hL, h2, h3⟩, st⟩
  · dsimp only [Pt.U, Pt.locs, Pt.cells, Pt.slots] at X' e1 e2 h1 h2 h3 st
    subst h1; subst h2; subst h3
    exact Or.inl ⟨v, (T.setVm vm₁).calling g' mk As.toArray, t, U', L, hT, X', hL, e1, e2, hq, st⟩
  · dsimp only [Pt.U, Pt.locs, Pt.cells, Pt.slots] at X' e1 e2 h1 h2 h3 st hcl
    subst h1; subst h2; subst h3
    exact Or.inr ⟨q, (T.setVm vm₁).calling g' mk As.toArray, t, U', L, E, ce, hT, X', hL, e1, e2, hq, hce, hcv, vx_cls hW₁ hcl, st⟩
end
end VXH
theorem vx_ofWH {l : Launch} {y : MethodName} {ws ws' : List Cond} {rm : Room} {Pc : Array Value → State → Prop} {Qc : Array Value → State → Outcome → State → Prop} {XC : String → State → State → Prop} {mc ms : Nat} {free : Addr → Prop} {cc : ByteArray} {maxL : Nat} {ret : Option FieldType} {hh : List (Nat × Nat × Nat × Nat)}
    (hy : plainName y.cls = true) (hw : ws = Cond.codeWith y cc maxL ret hh :: ws')
    (body : ∀ p e s m args below meth c s₁, BodyLoose p l y (headSpec ws rm) cc maxL ret e s m args below meth c s₁ → c.maxLocals = maxL → Pc args s →
      W p l e (headSpec ws rm).room s m args below meth c s.heap [] 0 0 (vx_MQ below Qc XC args s mc ms free) (entryFrame m args maxL)) : vx_Met l y ws rm Pc Qc XC mc ms free := by
  refine MetFree.of_bodyS (code := cc) (maxLocals := maxL) (ret := ret) hy ?_ ?_
  · intro args s m h hn
    obtain ⟨m9, meth, c, hn9, h1, h2, h3, h4, -, h5, h6, -⟩ := Cond.codeWith_spec (atoms_spec (ws := ws) h _ (by rw [hw]; exact List.mem_cons_self))
    cases hn.symm.trans hn9
    exact ⟨meth, c, h1, h2, h3, h4, h5, h6⟩
  · intro p e s m args below meth c s₁ B hml hP _
    have hh0 : s₁.heap = s.heap := by rw [B.state]; rfl
    obtain ⟨t, a1, o, b1, b2, b3⟩ := body p e s m args below meth c s₁ B hml hP s₁ hh0 (Stand.of_body B)
    exact ⟨t, o, a1, b1, b2, b3⟩
/-! ===== END ===== -/
end
section
/-! ===== BEGIN printed: names, fields, word lists, decode rows ===== -/
def RX0 : String := "Backdater$Change"
def TX0 : u_T := fun k => match k with
  | 0 => ("Backdater$Change", "number", "I", true)
  | 1 => ("Backdater$Change", "policy", "LBackdater$Policy;", true)
  | 2 => ("Backdater$Change", "kind", "LBackdater$Kind;", true)
  | 3 => ("Backdater$Change", "field", "I", true)
  | 4 => ("Backdater$Change", "from", "I", true)
  | 5 => ("Backdater$Change", "amount", "I", true)
  | 6 => ("Backdater$Change", "toldOn", "I", true)
  | _ => ("Backdater$Change", "takenBackOn", "I", false)
def tyX0 : Nat → FieldType := fun k => match k with
  | 0 => .int
  | 1 => .object "Backdater$Policy"
  | 2 => .object "Backdater$Kind"
  | 3 => .int
  | 4 => .int
  | 5 => .int
  | 6 => .int
  | _ => .int
abbrev wsX00 : List Cond := u_ws RX0 TX0 8
theorem nmX0 : ∀ a, a < 8 → ∀ b, b < 8 → a ≠ b → (TX0 a).2.1 ≠ (TX0 b).2.1 := by decide +kernel
theorem tyX0_ok : ∀ k, k < 8 → parseFieldDescriptor (TX0 k).2.2.1 = some (tyX0 k) := by decide +kernel
abbrev cX0_init : ByteArray := prog_2_method_1_code
def yX0_init : MethodName := ⟨RX0, "<init>", "(ILBackdater$Policy;LBackdater$Kind;IIII)V"⟩
abbrev cX0_isKnownOn : ByteArray := prog_2_method_2_code
def yX0_isKnownOn : MethodName := ⟨RX0, "isKnownOn", "(I)Z"⟩
def RX1 : String := "Backdater$Kind"
def TX1 : u_T := fun k => match k with
  | _ => ("", "", "", false)
def tyX1 : Nat → FieldType := fun k => match k with
  | _ => .int
abbrev wsX10 : List Cond := u_ws RX1 TX1 0
theorem nmX1 : ∀ a, a < 0 → ∀ b, b < 0 → a ≠ b → (TX1 a).2.1 ≠ (TX1 b).2.1 := by decide +kernel
theorem tyX1_ok : ∀ k, k < 0 → parseFieldDescriptor (TX1 k).2.2.1 = some (tyX1 k) := by decide +kernel
def RX2 : String := "Backdater$Policy"
def TX2 : u_T := fun k => match k with
  | 0 => ("Backdater$Policy", "base", "I", true)
  | 1 => ("Backdater$Policy", "inOrder", "Ljava/util/List;", true)
  | _ => ("Backdater$Policy", "billedSoFar", "I", false)
def tyX2 : Nat → FieldType := fun k => match k with
  | 0 => .int
  | 1 => .object "java/util/List"
  | _ => .int
abbrev wsX20 : List Cond := u_ws RX2 TX2 3
theorem nmX2 : ∀ a, a < 3 → ∀ b, b < 3 → a ≠ b → (TX2 a).2.1 ≠ (TX2 b).2.1 := by decide +kernel
theorem tyX2_ok : ∀ k, k < 3 → parseFieldDescriptor (TX2 k).2.2.1 = some (tyX2 k) := by decide +kernel
abbrev cX2_init : ByteArray := prog_4_method_1_code
def yX2_init : MethodName := ⟨RX2, "<init>", "(I)V"⟩
abbrev cX2_putInOrder : ByteArray := prog_4_method_2_code
def yX2_putInOrder : MethodName := ⟨RX2, "putInOrder", "(LBackdater$Change;)V"⟩
def RX3 : String := "Backdater$Tariffs"
def TX3 : u_T := fun k => match k with
  | 0 => ("Backdater$Tariffs", "weights", "[[I", true)
  | 1 => ("Backdater$Tariffs", "since", "[[I", true)
  | _ => ("Backdater$Tariffs", "count", "I", false)
def tyX3 : Nat → FieldType := fun k => match k with
  | 0 => .array (.array .int)
  | 1 => .array (.array .int)
  | _ => .int
abbrev wsX30 : List Cond := u_ws RX3 TX3 3
theorem nmX3 : ∀ a, a < 3 → ∀ b, b < 3 → a ≠ b → (TX3 a).2.1 ≠ (TX3 b).2.1 := by decide +kernel
theorem tyX3_ok : ∀ k, k < 3 → parseFieldDescriptor (TX3 k).2.2.1 = some (tyX3 k) := by decide +kernel
abbrev cX3_init : ByteArray := prog_5_method_1_code
def yX3_init : MethodName := ⟨RX3, "<init>", "()V"⟩
abbrev cX3_tell : ByteArray := prog_5_method_2_code
def yX3_tell : MethodName := ⟨RX3, "tell", "(III)V"⟩
abbrev cX3_weightOn : ByteArray := prog_5_method_3_code
def yX3_weightOn : MethodName := ⟨RX3, "weightOn", "(II)I"⟩
def RX4 : String := "Backdater$Version"
def TX4 : u_T := fun k => match k with
  | 0 => ("Backdater$Version", "values", "[I", true)
  | _ => ("Backdater$Version", "covered", "Z", false)
def tyX4 : Nat → FieldType := fun k => match k with
  | 0 => .array .int
  | _ => .boolean
abbrev wsX40 : List Cond := u_ws RX4 TX4 2
theorem nmX4 : ∀ a, a < 2 → ∀ b, b < 2 → a ≠ b → (TX4 a).2.1 ≠ (TX4 b).2.1 := by decide +kernel
theorem tyX4_ok : ∀ k, k < 2 → parseFieldDescriptor (TX4 k).2.2.1 = some (tyX4 k) := by decide +kernel
abbrev cX4_init : ByteArray := prog_6_method_1_code
def yX4_init : MethodName := ⟨RX4, "<init>", "()V"⟩
abbrev cX4_begin : ByteArray := prog_6_method_2_code
def yX4_begin : MethodName := ⟨RX4, "begin", "()V"⟩
abbrev cX4_layIn : ByteArray := prog_6_method_3_code
def yX4_layIn : MethodName := ⟨RX4, "layIn", "(LBackdater$Change;)V"⟩
abbrev cX4_valueOf : ByteArray := prog_6_method_4_code
def yX4_valueOf : MethodName := ⟨RX4, "valueOf", "(I)I"⟩
abbrev cX4_putValue : ByteArray := prog_6_method_5_code
def yX4_putValue : MethodName := ⟨RX4, "putValue", "(II)V"⟩
def RX5 : String := "Backdater$Year"
def TX5 : u_T := fun k => match k with
  | 0 => ("Backdater$Year", "rates", "[I", true)
  | _ => ("Backdater$Year", "sums", "[I", true)
def tyX5 : Nat → FieldType := fun k => match k with
  | 0 => .array .int
  | _ => .array .int
abbrev wsX50 : List Cond := u_ws RX5 TX5 2
theorem nmX5 : ∀ a, a < 2 → ∀ b, b < 2 → a ≠ b → (TX5 a).2.1 ≠ (TX5 b).2.1 := by decide +kernel
theorem tyX5_ok : ∀ k, k < 2 → parseFieldDescriptor (TX5 k).2.2.1 = some (tyX5 k) := by decide +kernel
abbrev cX5_init : ByteArray := prog_7_method_1_code
def yX5_init : MethodName := ⟨RX5, "<init>", "()V"⟩
abbrev cX5_putRate : ByteArray := prog_7_method_2_code
def yX5_putRate : MethodName := ⟨RX5, "putRate", "(II)V"⟩
abbrev cX5_isStart : ByteArray := prog_7_method_3_code
def yX5_isStart : MethodName := ⟨RX5, "isStart", "(I)Z"⟩
abbrev cX5_countSegments : ByteArray := prog_7_method_4_code
def yX5_countSegments : MethodName := ⟨RX5, "countSegments", "()I"⟩
abbrev cX5_startOf : ByteArray := prog_7_method_5_code
def yX5_startOf : MethodName := ⟨RX5, "startOf", "(I)I"⟩
abbrev cX5_dayBehindSegmentFrom : ByteArray := prog_7_method_6_code
def yX5_dayBehindSegmentFrom : MethodName := ⟨RX5, "dayBehindSegmentFrom", "(I)I"⟩
abbrev cX5_chargeUpTo : ByteArray := prog_7_method_7_code
def yX5_chargeUpTo : MethodName := ⟨RX5, "chargeUpTo", "(I)I"⟩
abbrev cX5_premiumOfSegmentFrom : ByteArray := prog_7_method_8_code
def yX5_premiumOfSegmentFrom : MethodName := ⟨RX5, "premiumOfSegmentFrom", "(I)I"⟩
abbrev cX5_sumOfPremiums : ByteArray := prog_7_method_9_code
def yX5_sumOfPremiums : MethodName := ⟨RX5, "sumOfPremiums", "()I"⟩
def RX6 : String := "Backdater"
def TX6 : u_T := fun k => match k with
  | 0 => ("Backdater", "policies", "Ljava/util/List;", true)
  | 1 => ("Backdater", "told", "Ljava/util/List;", true)
  | 2 => ("Backdater", "tariffs", "LBackdater$Tariffs;", true)
  | 3 => ("Backdater", "version", "LBackdater$Version;", true)
  | 4 => ("Backdater", "year", "LBackdater$Year;", true)
  | _ => ("Backdater", "currentDay", "I", false)
def tyX6 : Nat → FieldType := fun k => match k with
  | 0 => .object "java/util/List"
  | 1 => .object "java/util/List"
  | 2 => .object "Backdater$Tariffs"
  | 3 => .object "Backdater$Version"
  | 4 => .object "Backdater$Year"
  | _ => .int
abbrev wsX60 : List Cond := u_ws RX6 TX6 6
theorem nmX6 : ∀ a, a < 6 → ∀ b, b < 6 → a ≠ b → (TX6 a).2.1 ≠ (TX6 b).2.1 := by decide +kernel
theorem tyX6_ok : ∀ k, k < 6 → parseFieldDescriptor (TX6 k).2.2.1 = some (tyX6 k) := by decide +kernel
abbrev cX6_init : ByteArray := prog_1_method_1_code
def yX6_init : MethodName := ⟨RX6, "<init>", "()V"⟩
abbrev cX6_open : ByteArray := prog_1_method_2_code
def yX6_open : MethodName := ⟨RX6, "open", "(I)I"⟩
abbrev cX6_setWeight : ByteArray := prog_1_method_3_code
def yX6_setWeight : MethodName := ⟨RX6, "setWeight", "(III)I"⟩
abbrev cX6_pass : ByteArray := prog_1_method_4_code
def yX6_pass : MethodName := ⟨RX6, "pass", "(I)I"⟩
abbrev cX6_today : ByteArray := prog_1_method_5_code
def yX6_today : MethodName := ⟨RX6, "today", "()I"⟩
abbrev cX6_change : ByteArray := prog_1_method_6_code
def yX6_change : MethodName := ⟨RX6, "change", "(IIII)I"⟩
abbrev cX6_add : ByteArray := prog_1_method_7_code
def yX6_add : MethodName := ⟨RX6, "add", "(IIII)I"⟩
abbrev cX6_cancel : ByteArray := prog_1_method_8_code
def yX6_cancel : MethodName := ⟨RX6, "cancel", "(II)I"⟩
abbrev cX6_reinstate : ByteArray := prog_1_method_9_code
def yX6_reinstate : MethodName := ⟨RX6, "reinstate", "(II)I"⟩
abbrev cX6_takeBack : ByteArray := prog_1_method_10_code
def yX6_takeBack : MethodName := ⟨RX6, "takeBack", "(I)I"⟩
abbrev cX6_changes : ByteArray := prog_1_method_11_code
def yX6_changes : MethodName := ⟨RX6, "changes", "()I"⟩
abbrev cX6_laidAnew : ByteArray := prog_1_method_12_code
def yX6_laidAnew : MethodName := ⟨RX6, "laidAnew", "(I)I"⟩
abbrev cX6_value : ByteArray := prog_1_method_13_code
def yX6_value : MethodName := ⟨RX6, "value", "(IIII)I"⟩
abbrev cX6_isCovered : ByteArray := prog_1_method_14_code
def yX6_isCovered : MethodName := ⟨RX6, "isCovered", "(III)Z"⟩
abbrev cX6_rate : ByteArray := prog_1_method_15_code
def yX6_rate : MethodName := ⟨RX6, "rate", "(III)I"⟩
abbrev cX6_segments : ByteArray := prog_1_method_16_code
def yX6_segments : MethodName := ⟨RX6, "segments", "(II)I"⟩
abbrev cX6_segmentStart : ByteArray := prog_1_method_17_code
def yX6_segmentStart : MethodName := ⟨RX6, "segmentStart", "(III)I"⟩
abbrev cX6_segmentPremium : ByteArray := prog_1_method_18_code
def yX6_segmentPremium : MethodName := ⟨RX6, "segmentPremium", "(III)I"⟩
abbrev cX6_premium : ByteArray := prog_1_method_19_code
def yX6_premium : MethodName := ⟨RX6, "premium", "(II)I"⟩
abbrev cX6_premiumByDays : ByteArray := prog_1_method_20_code
def yX6_premiumByDays : MethodName := ⟨RX6, "premiumByDays", "(II)I"⟩
abbrev cX6_bill : ByteArray := prog_1_method_21_code
def yX6_bill : MethodName := ⟨RX6, "bill", "(I)I"⟩
abbrev cX6_billed : ByteArray := prog_1_method_22_code
def yX6_billed : MethodName := ⟨RX6, "billed", "(I)I"⟩
abbrev cX6_demandWithin : ByteArray := prog_1_method_23_code
def yX6_demandWithin : MethodName := ⟨RX6, "demandWithin", "(III)V"⟩
abbrev cX6_demandDay : ByteArray := prog_1_method_24_code
def yX6_demandDay : MethodName := ⟨RX6, "demandDay", "(I)V"⟩
abbrev cX6_demandKnown : ByteArray := prog_1_method_25_code
def yX6_demandKnown : MethodName := ⟨RX6, "demandKnown", "(I)V"⟩
abbrev cX6_demandField : ByteArray := prog_1_method_26_code
def yX6_demandField : MethodName := ⟨RX6, "demandField", "(I)V"⟩
abbrev cX6_isField : ByteArray := prog_1_method_27_code
def yX6_isField : MethodName := ⟨RX6, "isField", "(I)Z"⟩
abbrev cX6_isDay : ByteArray := prog_1_method_28_code
def yX6_isDay : MethodName := ⟨RX6, "isDay", "(I)Z"⟩
abbrev cX6_policyNumbered : ByteArray := prog_1_method_29_code
def yX6_policyNumbered : MethodName := ⟨RX6, "policyNumbered", "(I)LBackdater$Policy;"⟩
abbrev cX6_changeNumbered : ByteArray := prog_1_method_30_code
def yX6_changeNumbered : MethodName := ⟨RX6, "changeNumbered", "(I)LBackdater$Change;"⟩
abbrev cX6_tell : ByteArray := prog_1_method_31_code
def yX6_tell : MethodName := ⟨RX6, "tell", "(LBackdater$Policy;LBackdater$Kind;III)I"⟩
abbrev cX6_layVersion : ByteArray := prog_1_method_32_code
def yX6_layVersion : MethodName := ⟨RX6, "layVersion", "(LBackdater$Policy;II)V"⟩
abbrev cX6_layInFrom : ByteArray := prog_1_method_33_code
def yX6_layInFrom : MethodName := ⟨RX6, "layInFrom", "(LBackdater$Policy;III)I"⟩
abbrev cX6_rateOfVersion : ByteArray := prog_1_method_34_code
def yX6_rateOfVersion : MethodName := ⟨RX6, "rateOfVersion", "(LBackdater$Policy;I)I"⟩
abbrev cX6_layYear : ByteArray := prog_1_method_35_code
def yX6_layYear : MethodName := ⟨RX6, "layYear", "(LBackdater$Policy;I)V"⟩
abbrev cX6_startOfSegment : ByteArray := prog_1_method_36_code
def yX6_startOfSegment : MethodName := ⟨RX6, "startOfSegment", "(III)I"⟩
abbrev cX6_premiumBySegments : ByteArray := prog_1_method_37_code
def yX6_premiumBySegments : MethodName := ⟨RX6, "premiumBySegments", "(LBackdater$Policy;I)I"⟩
def RX7 : String := "BackdaterModel"
def TX7 : u_T := fun k => match k with
  | 0 => ("BackdaterModel", "policies", "I", false)
  | 1 => ("BackdaterModel", "base", "[I", true)
  | 2 => ("BackdaterModel", "paid", "[I", true)
  | 3 => ("BackdaterModel", "today", "I", false)
  | 4 => ("BackdaterModel", "tariffs", "I", false)
  | 5 => ("BackdaterModel", "field", "[I", true)
  | 6 => ("BackdaterModel", "weight", "[I", true)
  | 7 => ("BackdaterModel", "since", "[I", true)
  | 8 => ("BackdaterModel", "changes", "I", false)
  | 9 => ("BackdaterModel", "of", "[I", true)
  | 10 => ("BackdaterModel", "kind", "[I", true)
  | 11 => ("BackdaterModel", "which", "[I", true)
  | 12 => ("BackdaterModel", "from", "[I", true)
  | 13 => ("BackdaterModel", "number", "[I", true)
  | 14 => ("BackdaterModel", "told", "[I", true)
  | 15 => ("BackdaterModel", "taken", "[I", true)
  | 16 => ("BackdaterModel", "value", "[I", true)
  | 17 => ("BackdaterModel", "covered", "[Z", true)
  | 18 => ("BackdaterModel", "rate", "[I", true)
  | 19 => ("BackdaterModel", "sum", "[I", true)
  | _ => ("BackdaterModel", "thrown", "I", false)
def tyX7 : Nat → FieldType := fun k => match k with
  | 0 => .int
  | 1 => .array .int
  | 2 => .array .int
  | 3 => .int
  | 4 => .int
  | 5 => .array .int
  | 6 => .array .int
  | 7 => .array .int
  | 8 => .int
  | 9 => .array .int
  | 10 => .array .int
  | 11 => .array .int
  | 12 => .array .int
  | 13 => .array .int
  | 14 => .array .int
  | 15 => .array .int
  | 16 => .array .int
  | 17 => .array .boolean
  | 18 => .array .int
  | 19 => .array .int
  | _ => .int
abbrev wsX70 : List Cond := u_ws RX7 TX7 21
theorem nmX7 : ∀ a, a < 21 → ∀ b, b < 21 → a ≠ b → (TX7 a).2.1 ≠ (TX7 b).2.1 := by decide +kernel
theorem tyX7_ok : ∀ k, k < 21 → parseFieldDescriptor (TX7 k).2.2.1 = some (tyX7 k) := by decide +kernel
abbrev cX7_init : ByteArray := prog_9_method_1_code
def yX7_init : MethodName := ⟨RX7, "<init>", "()V"⟩
abbrev cX7_thrown : ByteArray := prog_9_method_2_code
def yX7_thrown : MethodName := ⟨RX7, "thrown", "()I"⟩
abbrev cX7_isIn : ByteArray := prog_9_method_3_code
def yX7_isIn : MethodName := ⟨RX7, "isIn", "(III)Z"⟩
abbrev cX7_isDay : ByteArray := prog_9_method_4_code
def yX7_isDay : MethodName := ⟨RX7, "isDay", "(I)Z"⟩
abbrev cX7_isPolicy : ByteArray := prog_9_method_5_code
def yX7_isPolicy : MethodName := ⟨RX7, "isPolicy", "(I)Z"⟩
abbrev cX7_isField : ByteArray := prog_9_method_6_code
def yX7_isField : MethodName := ⟨RX7, "isField", "(I)Z"⟩
abbrev cX7_open : ByteArray := prog_9_method_7_code
def yX7_open : MethodName := ⟨RX7, "open", "(I)I"⟩
abbrev cX7_setWeight : ByteArray := prog_9_method_8_code
def yX7_setWeight : MethodName := ⟨RX7, "setWeight", "(III)I"⟩
abbrev cX7_pass : ByteArray := prog_9_method_9_code
def yX7_pass : MethodName := ⟨RX7, "pass", "(I)I"⟩
abbrev cX7_today : ByteArray := prog_9_method_10_code
def yX7_today : MethodName := ⟨RX7, "today", "()I"⟩
abbrev cX7_tells : ByteArray := prog_9_method_11_code
def yX7_tells : MethodName := ⟨RX7, "tells", "(IIIIIZ)I"⟩
abbrev cX7_change : ByteArray := prog_9_method_12_code
def yX7_change : MethodName := ⟨RX7, "change", "(IIII)I"⟩
abbrev cX7_add : ByteArray := prog_9_method_13_code
def yX7_add : MethodName := ⟨RX7, "add", "(IIII)I"⟩
abbrev cX7_cancel : ByteArray := prog_9_method_14_code
def yX7_cancel : MethodName := ⟨RX7, "cancel", "(II)I"⟩
abbrev cX7_reinstate : ByteArray := prog_9_method_15_code
def yX7_reinstate : MethodName := ⟨RX7, "reinstate", "(II)I"⟩
abbrev cX7_isChange : ByteArray := prog_9_method_16_code
def yX7_isChange : MethodName := ⟨RX7, "isChange", "(I)Z"⟩
abbrev cX7_takeBack : ByteArray := prog_9_method_17_code
def yX7_takeBack : MethodName := ⟨RX7, "takeBack", "(I)I"⟩
abbrev cX7_changes : ByteArray := prog_9_method_18_code
def yX7_changes : MethodName := ⟨RX7, "changes", "()I"⟩
abbrev cX7_isKnown : ByteArray := prog_9_method_19_code
def yX7_isKnown : MethodName := ⟨RX7, "isKnown", "(II)Z"⟩
abbrev cX7_laidAnew : ByteArray := prog_9_method_20_code
def yX7_laidAnew : MethodName := ⟨RX7, "laidAnew", "(I)I"⟩
abbrev cX7_weighs : ByteArray := prog_9_method_21_code
def yX7_weighs : MethodName := ⟨RX7, "weighs", "(II)I"⟩
abbrev cX7_bounded : ByteArray := prog_9_method_22_code
def yX7_bounded : MethodName := ⟨RX7, "bounded", "(I)I"⟩
abbrev cX7_goes : ByteArray := prog_9_method_23_code
def yX7_goes : MethodName := ⟨RX7, "goes", "(II)V"⟩
abbrev cX7_looks : ByteArray := prog_9_method_24_code
def yX7_looks : MethodName := ⟨RX7, "looks", "(IIII)Z"⟩
abbrev cX7_value : ByteArray := prog_9_method_25_code
def yX7_value : MethodName := ⟨RX7, "value", "(IIII)I"⟩
abbrev cX7_isCovered : ByteArray := prog_9_method_26_code
def yX7_isCovered : MethodName := ⟨RX7, "isCovered", "(III)Z"⟩
abbrev cX7_rate : ByteArray := prog_9_method_27_code
def yX7_rate : MethodName := ⟨RX7, "rate", "(III)I"⟩
abbrev cX7_begins : ByteArray := prog_9_method_28_code
def yX7_begins : MethodName := ⟨RX7, "begins", "(I)Z"⟩
abbrev cX7_segments : ByteArray := prog_9_method_29_code
def yX7_segments : MethodName := ⟨RX7, "segments", "(II)I"⟩
abbrev cX7_found : ByteArray := prog_9_method_30_code
def yX7_found : MethodName := ⟨RX7, "found", "(III)I"⟩
abbrev cX7_segmentStart : ByteArray := prog_9_method_31_code
def yX7_segmentStart : MethodName := ⟨RX7, "segmentStart", "(III)I"⟩
abbrev cX7_charge : ByteArray := prog_9_method_32_code
def yX7_charge : MethodName := ⟨RX7, "charge", "(I)I"⟩
abbrev cX7_segmentPremium : ByteArray := prog_9_method_33_code
def yX7_segmentPremium : MethodName := ⟨RX7, "segmentPremium", "(III)I"⟩
abbrev cX7_all : ByteArray := prog_9_method_34_code
def yX7_all : MethodName := ⟨RX7, "all", "(II)I"⟩
abbrev cX7_premium : ByteArray := prog_9_method_35_code
def yX7_premium : MethodName := ⟨RX7, "premium", "(II)I"⟩
abbrev cX7_premiumByDays : ByteArray := prog_9_method_36_code
def yX7_premiumByDays : MethodName := ⟨RX7, "premiumByDays", "(II)I"⟩
abbrev cX7_bill : ByteArray := prog_9_method_37_code
def yX7_bill : MethodName := ⟨RX7, "bill", "(I)I"⟩
abbrev cX7_billed : ByteArray := prog_9_method_38_code
def yX7_billed : MethodName := ⟨RX7, "billed", "(I)I"⟩
def RJx145de : String := "java/io/Serializable"
def TJx145de : u_T := fun k => match k with
  | _ => ("", "", "", false)
def tyJx145de : Nat → FieldType := fun k => match k with
  | _ => .int
abbrev wsJx145de0 : List Cond := u_ws RJx145de TJx145de 0
theorem nmJx145de : ∀ a, a < 0 → ∀ b, b < 0 → a ≠ b → (TJx145de a).2.1 ≠ (TJx145de b).2.1 := by decide +kernel
theorem tyJx145de_ok : ∀ k, k < 0 → parseFieldDescriptor (TJx145de k).2.2.1 = some (tyJx145de k) := by decide +kernel
def RJ5 : String := "java/lang/AbstractStringBuilder"
def TJ5 : u_T := fun k => match k with
  | _ => ("", "", "", false)
def tyJ5 : Nat → FieldType := fun k => match k with
  | _ => .int
abbrev wsJ50 : List Cond := u_ws RJ5 TJ5 0
theorem nmJ5 : ∀ a, a < 0 → ∀ b, b < 0 → a ≠ b → (TJ5 a).2.1 ≠ (TJ5 b).2.1 := by decide +kernel
theorem tyJ5_ok : ∀ k, k < 0 → parseFieldDescriptor (TJ5 k).2.2.1 = some (tyJ5 k) := by decide +kernel
abbrev cJ5_init_d00df : ByteArray := prog_11_method_2_code
def yJ5_init_d00df : MethodName := ⟨RJ5, "<init>", "(I)V"⟩
abbrev cJ5_length_8abf5 : ByteArray := prog_11_method_6_code
def yJ5_length_8abf5 : MethodName := ⟨RJ5, "length", "()I"⟩
abbrev cJ5_ensureCapacityInternal_d00df : ByteArray := prog_11_method_9_code
def yJ5_ensureCapacityInternal_d00df : MethodName := ⟨RJ5, "ensureCapacityInternal", "(I)V"⟩
abbrev cJ5_newCapacity_0f7a4 : ByteArray := prog_11_method_10_code
def yJ5_newCapacity_0f7a4 : MethodName := ⟨RJ5, "newCapacity", "(I)I"⟩
abbrev cJ5_inflate_da8c8 : ByteArray := prog_11_method_11_code
def yJ5_inflate_da8c8 : MethodName := ⟨RJ5, "inflate", "()V"⟩
abbrev cJ5_append_cf1ce : ByteArray := prog_11_method_22_code
def yJ5_append_cf1ce : MethodName := ⟨RJ5, "append", "(Ljava/lang/String;)Ljava/lang/AbstractStringBuilder;"⟩
abbrev cJ5_appendNull_278bc : ByteArray := prog_11_method_26_code
def yJ5_appendNull_278bc : MethodName := ⟨RJ5, "appendNull", "()Ljava/lang/AbstractStringBuilder;"⟩
abbrev cJ5_append_c97b9 : ByteArray := prog_11_method_32_code
def yJ5_append_c97b9 : MethodName := ⟨RJ5, "append", "(I)Ljava/lang/AbstractStringBuilder;"⟩
abbrev cJ5_getValue_6d5f1 : ByteArray := prog_11_method_64_code
def yJ5_getValue_6d5f1 : MethodName := ⟨RJ5, "getValue", "()[B"⟩
abbrev cJ5_isLatin1_aae02 : ByteArray := prog_11_method_68_code
def yJ5_isLatin1_aae02 : MethodName := ⟨RJ5, "isLatin1", "()Z"⟩
abbrev cJ5_inflateIfNeededFor_a7421 : ByteArray := prog_11_method_71_code
def yJ5_inflateIfNeededFor_a7421 : MethodName := ⟨RJ5, "inflateIfNeededFor", "(Ljava/lang/String;)V"⟩
abbrev cJ5_putStringAt_47b60 : ByteArray := prog_11_method_73_code
def yJ5_putStringAt_47b60 : MethodName := ⟨RJ5, "putStringAt", "(ILjava/lang/String;)V"⟩
def RJx2cfe8 : String := "java/lang/Appendable"
def TJx2cfe8 : u_T := fun k => match k with
  | _ => ("", "", "", false)
def tyJx2cfe8 : Nat → FieldType := fun k => match k with
  | _ => .int
abbrev wsJx2cfe80 : List Cond := u_ws RJx2cfe8 TJx2cfe8 0
theorem nmJx2cfe8 : ∀ a, a < 0 → ∀ b, b < 0 → a ≠ b → (TJx2cfe8 a).2.1 ≠ (TJx2cfe8 b).2.1 := by decide +kernel
theorem tyJx2cfe8_ok : ∀ k, k < 0 → parseFieldDescriptor (TJx2cfe8 k).2.2.1 = some (tyJx2cfe8 k) := by decide +kernel
def RJx9f9b0 : String := "java/lang/CharSequence"
def TJx9f9b0 : u_T := fun k => match k with
  | _ => ("", "", "", false)
def tyJx9f9b0 : Nat → FieldType := fun k => match k with
  | _ => .int
abbrev wsJx9f9b00 : List Cond := u_ws RJx9f9b0 TJx9f9b0 0
theorem nmJx9f9b0 : ∀ a, a < 0 → ∀ b, b < 0 → a ≠ b → (TJx9f9b0 a).2.1 ≠ (TJx9f9b0 b).2.1 := by decide +kernel
theorem tyJx9f9b0_ok : ∀ k, k < 0 → parseFieldDescriptor (TJx9f9b0 k).2.2.1 = some (tyJx9f9b0 k) := by decide +kernel
def RJx8e188 : String := "java/lang/Cloneable"
def TJx8e188 : u_T := fun k => match k with
  | _ => ("", "", "", false)
def tyJx8e188 : Nat → FieldType := fun k => match k with
  | _ => .int
abbrev wsJx8e1880 : List Cond := u_ws RJx8e188 TJx8e188 0
theorem nmJx8e188 : ∀ a, a < 0 → ∀ b, b < 0 → a ≠ b → (TJx8e188 a).2.1 ≠ (TJx8e188 b).2.1 := by decide +kernel
theorem tyJx8e188_ok : ∀ k, k < 0 → parseFieldDescriptor (TJx8e188 k).2.2.1 = some (tyJx8e188 k) := by decide +kernel
def RJxb160c : String := "java/lang/Comparable"
def TJxb160c : u_T := fun k => match k with
  | _ => ("", "", "", false)
def tyJxb160c : Nat → FieldType := fun k => match k with
  | _ => .int
abbrev wsJxb160c0 : List Cond := u_ws RJxb160c TJxb160c 0
theorem nmJxb160c : ∀ a, a < 0 → ∀ b, b < 0 → a ≠ b → (TJxb160c a).2.1 ≠ (TJxb160c b).2.1 := by decide +kernel
theorem tyJxb160c_ok : ∀ k, k < 0 → parseFieldDescriptor (TJxb160c k).2.2.1 = some (tyJxb160c k) := by decide +kernel
def RJx29ce0 : String := "java/lang/Enum"
def TJx29ce0 : u_T := fun k => match k with
  | _ => ("", "", "", false)
def tyJx29ce0 : Nat → FieldType := fun k => match k with
  | _ => .int
abbrev wsJx29ce00 : List Cond := u_ws RJx29ce0 TJx29ce0 0
theorem nmJx29ce0 : ∀ a, a < 0 → ∀ b, b < 0 → a ≠ b → (TJx29ce0 a).2.1 ≠ (TJx29ce0 b).2.1 := by decide +kernel
theorem tyJx29ce0_ok : ∀ k, k < 0 → parseFieldDescriptor (TJx29ce0 k).2.2.1 = some (tyJx29ce0 k) := by decide +kernel
def RJ6 : String := "java/lang/Integer"
def TJ6 : u_T := fun k => match k with
  | _ => ("", "", "", false)
def tyJ6 : Nat → FieldType := fun k => match k with
  | _ => .int
abbrev wsJ60 : List Cond := u_ws RJ6 TJ6 0
theorem nmJ6 : ∀ a, a < 0 → ∀ b, b < 0 → a ≠ b → (TJ6 a).2.1 ≠ (TJ6 b).2.1 := by decide +kernel
theorem tyJ6_ok : ∀ k, k < 0 → parseFieldDescriptor (TJ6 k).2.2.1 = some (tyJ6 k) := by decide +kernel
abbrev cJ6_getChars_ba4f3 : ByteArray := prog_21_method_12_code
def yJ6_getChars_ba4f3 : MethodName := ⟨RJ6, "getChars", "(II[B)I"⟩
abbrev cJ6_stringSize_0f7a4 : ByteArray := prog_21_method_13_code
def yJ6_stringSize_0f7a4 : MethodName := ⟨RJ6, "stringSize", "(I)I"⟩
def RJxab1ab : String := "java/lang/Iterable"
def TJxab1ab : u_T := fun k => match k with
  | _ => ("", "", "", false)
def tyJxab1ab : Nat → FieldType := fun k => match k with
  | _ => .int
abbrev wsJxab1ab0 : List Cond := u_ws RJxab1ab TJxab1ab 0
theorem nmJxab1ab : ∀ a, a < 0 → ∀ b, b < 0 → a ≠ b → (TJxab1ab a).2.1 ≠ (TJxab1ab b).2.1 := by decide +kernel
theorem tyJxab1ab_ok : ∀ k, k < 0 → parseFieldDescriptor (TJxab1ab k).2.2.1 = some (tyJxab1ab k) := by decide +kernel
def RJ9 : String := "java/lang/Math"
def TJ9 : u_T := fun k => match k with
  | _ => ("", "", "", false)
def tyJ9 : Nat → FieldType := fun k => match k with
  | _ => .int
abbrev wsJ90 : List Cond := u_ws RJ9 TJ9 0
theorem nmJ9 : ∀ a, a < 0 → ∀ b, b < 0 → a ≠ b → (TJ9 a).2.1 ≠ (TJ9 b).2.1 := by decide +kernel
theorem tyJ9_ok : ∀ k, k < 0 → parseFieldDescriptor (TJ9 k).2.2.1 = some (tyJ9 k) := by decide +kernel
abbrev cJ9_max_7cf53 : ByteArray := prog_23_method_65_code
def yJ9_max_7cf53 : MethodName := ⟨RJ9, "max", "(II)I"⟩
abbrev cJ9_min_7cf53 : ByteArray := prog_23_method_69_code
def yJ9_min_7cf53 : MethodName := ⟨RJ9, "min", "(II)I"⟩
def RJxd2413 : String := "java/lang/Number"
def TJxd2413 : u_T := fun k => match k with
  | _ => ("", "", "", false)
def tyJxd2413 : Nat → FieldType := fun k => match k with
  | _ => .int
abbrev wsJxd24130 : List Cond := u_ws RJxd2413 TJxd2413 0
theorem nmJxd2413 : ∀ a, a < 0 → ∀ b, b < 0 → a ≠ b → (TJxd2413 a).2.1 ≠ (TJxd2413 b).2.1 := by decide +kernel
theorem tyJxd2413_ok : ∀ k, k < 0 → parseFieldDescriptor (TJxd2413 k).2.2.1 = some (tyJxd2413 k) := by decide +kernel
def RJ0 : String := "java/lang/String"
def TJ0 : u_T := fun k => match k with
  | 0 => ("java/lang/String", "value", "[B", true)
  | 1 => ("java/lang/String", "coder", "B", true)
  | 2 => ("java/lang/String", "hash", "I", false)
  | _ => ("java/lang/String", "hashIsZero", "Z", false)
def tyJ0 : Nat → FieldType := fun k => match k with
  | 0 => .array .byte
  | 1 => .byte
  | 2 => .int
  | _ => .boolean
abbrev wsJ00 : List Cond := u_ws RJ0 TJ0 4
theorem nmJ0 : ∀ a, a < 4 → ∀ b, b < 4 → a ≠ b → (TJ0 a).2.1 ≠ (TJ0 b).2.1 := by decide +kernel
theorem tyJ0_ok : ∀ k, k < 4 → parseFieldDescriptor (TJ0 k).2.2.1 = some (tyJ0 k) := by decide +kernel
abbrev cJ0_init_81219 : ByteArray := prog_26_method_53_code
def yJ0_init_81219 : MethodName := ⟨RJ0, "<init>", "(Ljava/lang/StringBuilder;)V"⟩
abbrev cJ0_length_8abf5 : ByteArray := prog_26_method_54_code
def yJ0_length_8abf5 : MethodName := ⟨RJ0, "length", "()I"⟩
abbrev cJ0_getBytes_840e7 : ByteArray := prog_26_method_147_code
def yJ0_getBytes_840e7 : MethodName := ⟨RJ0, "getBytes", "([BIB)V"⟩
abbrev cJ0_init_db425 : ByteArray := prog_26_method_150_code
def yJ0_init_db425 : MethodName := ⟨RJ0, "<init>", "(Ljava/lang/AbstractStringBuilder;Ljava/lang/Void;)V"⟩
abbrev cJ0_coder_7d493 : ByteArray := prog_26_method_152_code
def yJ0_coder_7d493 : MethodName := ⟨RJ0, "coder", "()B"⟩
abbrev cJ0_checkBoundsOffCount_cabcc : ByteArray := prog_26_method_157_code
def yJ0_checkBoundsOffCount_cabcc : MethodName := ⟨RJ0, "checkBoundsOffCount", "(III)I"⟩
abbrev cJ0_checkBoundsBeginEnd_23922 : ByteArray := prog_26_method_158_code
def yJ0_checkBoundsBeginEnd_23922 : MethodName := ⟨RJ0, "checkBoundsBeginEnd", "(III)V"⟩
def RJ4 : String := "java/lang/StringBuilder"
def TJ4 : u_T := fun k => match k with
  | 0 => ("java/lang/AbstractStringBuilder", "value", "[B", false)
  | 1 => ("java/lang/AbstractStringBuilder", "coder", "B", false)
  | 2 => ("java/lang/AbstractStringBuilder", "maybeLatin1", "Z", false)
  | _ => ("java/lang/AbstractStringBuilder", "count", "I", false)
def tyJ4 : Nat → FieldType := fun k => match k with
  | 0 => .array .byte
  | 1 => .byte
  | 2 => .boolean
  | _ => .int
abbrev wsJ40 : List Cond := u_ws RJ4 TJ4 4
theorem nmJ4 : ∀ a, a < 4 → ∀ b, b < 4 → a ≠ b → (TJ4 a).2.1 ≠ (TJ4 b).2.1 := by decide +kernel
theorem tyJ4_ok : ∀ k, k < 4 → parseFieldDescriptor (TJ4 k).2.2.1 = some (tyJ4 k) := by decide +kernel
abbrev cJ4_init_da8c8 : ByteArray := prog_27_method_1_code
def yJ4_init_da8c8 : MethodName := ⟨RJ4, "<init>", "()V"⟩
abbrev cJ4_append_15ec4 : ByteArray := prog_27_method_7_code
def yJ4_append_15ec4 : MethodName := ⟨RJ4, "append", "(Ljava/lang/String;)Ljava/lang/StringBuilder;"⟩
abbrev cJ4_append_bf812 : ByteArray := prog_27_method_15_code
def yJ4_append_bf812 : MethodName := ⟨RJ4, "append", "(I)Ljava/lang/StringBuilder;"⟩
abbrev cJ4_toString_0e30d : ByteArray := prog_27_method_42_code
def yJ4_toString_0e30d : MethodName := ⟨RJ4, "toString", "()Ljava/lang/String;"⟩
abbrev cJ4_length_8abf5 : ByteArray := prog_27_method_93_code
def yJ4_length_8abf5 : MethodName := ⟨RJ4, "length", "()I"⟩
def RJ1 : String := "java/lang/StringLatin1"
def TJ1 : u_T := fun k => match k with
  | _ => ("", "", "", false)
def tyJ1 : Nat → FieldType := fun k => match k with
  | _ => .int
abbrev wsJ10 : List Cond := u_ws RJ1 TJ1 0
theorem nmJ1 : ∀ a, a < 0 → ∀ b, b < 0 → a ≠ b → (TJ1 a).2.1 ≠ (TJ1 b).2.1 := by decide +kernel
theorem tyJ1_ok : ∀ k, k < 0 → parseFieldDescriptor (TJ1 k).2.2.1 = some (tyJ1 k) := by decide +kernel
abbrev cJ1_inflate_0e8fd : ByteArray := prog_28_method_50_code
def yJ1_inflate_0e8fd : MethodName := ⟨RJ1, "inflate", "([BI[BII)V"⟩
def RJ2 : String := "java/lang/StringUTF16"
def TJ2 : u_T := fun k => match k with
  | _ => ("", "", "", false)
def tyJ2 : Nat → FieldType := fun k => match k with
  | _ => .int
abbrev wsJ20 : List Cond := u_ws RJ2 TJ2 0
theorem nmJ2 : ∀ a, a < 0 → ∀ b, b < 0 → a ≠ b → (TJ2 a).2.1 ≠ (TJ2 b).2.1 := by decide +kernel
theorem tyJ2_ok : ∀ k, k < 0 → parseFieldDescriptor (TJ2 k).2.2.1 = some (tyJ2 k) := by decide +kernel
abbrev cJ2_newBytesFor_77867 : ByteArray := prog_29_method_2_code
def yJ2_newBytesFor_77867 : MethodName := ⟨RJ2, "newBytesFor", "(I)[B"⟩
abbrev cJ2_newBytesLength_0f7a4 : ByteArray := prog_29_method_3_code
def yJ2_newBytesLength_0f7a4 : MethodName := ⟨RJ2, "newBytesLength", "(I)I"⟩
abbrev cJ2_putChar_b72d1 : ByteArray := prog_29_method_4_code
def yJ2_putChar_b72d1 : MethodName := ⟨RJ2, "putChar", "([BII)V"⟩
abbrev cJ2_getChar_3b067 : ByteArray := prog_29_method_5_code
def yJ2_getChar_3b067 : MethodName := ⟨RJ2, "getChar", "([BI)C"⟩
abbrev cJ2_length_9d52b : ByteArray := prog_29_method_6_code
def yJ2_length_9d52b : MethodName := ⟨RJ2, "length", "([B)I"⟩
abbrev cJ2_coderFromArrayLen_85cad : ByteArray := prog_29_method_15_code
def yJ2_coderFromArrayLen_85cad : MethodName := ⟨RJ2, "coderFromArrayLen", "([BI)B"⟩
abbrev cJ2_compress_39247 : ByteArray := prog_29_method_17_code
def yJ2_compress_39247 : MethodName := ⟨RJ2, "compress", "([BII)[B"⟩
abbrev cJ2_compress_5af95 : ByteArray := prog_29_method_22_code
def yJ2_compress_5af95 : MethodName := ⟨RJ2, "compress", "([BI[BII)I"⟩
abbrev cJ2_getChars_46870 : ByteArray := prog_29_method_77_code
def yJ2_getChars_46870 : MethodName := ⟨RJ2, "getChars", "(III[B)I"⟩
abbrev cJ2_putCharsAt_cd4e5 : ByteArray := prog_29_method_81_code
def yJ2_putCharsAt_cd4e5 : MethodName := ⟨RJ2, "putCharsAt", "([BICCCC)I"⟩
abbrev cJ2_inflate_0e8fd : ByteArray := prog_29_method_86_code
def yJ2_inflate_0e8fd : MethodName := ⟨RJ2, "inflate", "([BI[BII)V"⟩
abbrev cJ2_getChars_ba4f3 : ByteArray := prog_29_method_89_code
def yJ2_getChars_ba4f3 : MethodName := ⟨RJ2, "getChars", "(II[B)I"⟩
abbrev cJ2_checkBoundsBeginEnd_d044e : ByteArray := prog_29_method_93_code
def yJ2_checkBoundsBeginEnd_d044e : MethodName := ⟨RJ2, "checkBoundsBeginEnd", "(II[B)V"⟩
abbrev cJ2_checkBoundsOffCount_d044e : ByteArray := prog_29_method_94_code
def yJ2_checkBoundsOffCount_d044e : MethodName := ⟨RJ2, "checkBoundsOffCount", "(II[B)V"⟩
def RJ10 : String := "java/lang/System"
def TJ10 : u_T := fun k => match k with
  | _ => ("", "", "", false)
def tyJ10 : Nat → FieldType := fun k => match k with
  | _ => .int
abbrev wsJ100 : List Cond := u_ws RJ10 TJ10 0
theorem nmJ10 : ∀ a, a < 0 → ∀ b, b < 0 → a ≠ b → (TJ10 a).2.1 ≠ (TJ10 b).2.1 := by decide +kernel
theorem tyJ10_ok : ∀ k, k < 0 → parseFieldDescriptor (TJ10 k).2.2.1 = some (tyJ10 k) := by decide +kernel
def RJxfd54e : String := "java/lang/constant/Constable"
def TJxfd54e : u_T := fun k => match k with
  | _ => ("", "", "", false)
def tyJxfd54e : Nat → FieldType := fun k => match k with
  | _ => .int
abbrev wsJxfd54e0 : List Cond := u_ws RJxfd54e TJxfd54e 0
theorem nmJxfd54e : ∀ a, a < 0 → ∀ b, b < 0 → a ≠ b → (TJxfd54e a).2.1 ≠ (TJxfd54e b).2.1 := by decide +kernel
theorem tyJxfd54e_ok : ∀ k, k < 0 → parseFieldDescriptor (TJxfd54e k).2.2.1 = some (tyJxfd54e k) := by decide +kernel
def RJx3cf43 : String := "java/lang/constant/ConstantDesc"
def TJx3cf43 : u_T := fun k => match k with
  | _ => ("", "", "", false)
def tyJx3cf43 : Nat → FieldType := fun k => match k with
  | _ => .int
abbrev wsJx3cf430 : List Cond := u_ws RJx3cf43 TJx3cf43 0
theorem nmJx3cf43 : ∀ a, a < 0 → ∀ b, b < 0 → a ≠ b → (TJx3cf43 a).2.1 ≠ (TJx3cf43 b).2.1 := by decide +kernel
theorem tyJx3cf43_ok : ∀ k, k < 0 → parseFieldDescriptor (TJx3cf43 k).2.2.1 = some (tyJx3cf43 k) := by decide +kernel
def RJxa1e45 : String := "java/util/AbstractCollection"
def TJxa1e45 : u_T := fun k => match k with
  | _ => ("", "", "", false)
def tyJxa1e45 : Nat → FieldType := fun k => match k with
  | _ => .int
abbrev wsJxa1e450 : List Cond := u_ws RJxa1e45 TJxa1e45 0
theorem nmJxa1e45 : ∀ a, a < 0 → ∀ b, b < 0 → a ≠ b → (TJxa1e45 a).2.1 ≠ (TJxa1e45 b).2.1 := by decide +kernel
theorem tyJxa1e45_ok : ∀ k, k < 0 → parseFieldDescriptor (TJxa1e45 k).2.2.1 = some (tyJxa1e45 k) := by decide +kernel
abbrev cJxa1e45_init_da8c8 : ByteArray := prog_34_method_1_code
def yJxa1e45_init_da8c8 : MethodName := ⟨RJxa1e45, "<init>", "()V"⟩
def RJxc12de : String := "java/util/AbstractList"
def TJxc12de : u_T := fun k => match k with
  | _ => ("", "", "", false)
def tyJxc12de : Nat → FieldType := fun k => match k with
  | _ => .int
abbrev wsJxc12de0 : List Cond := u_ws RJxc12de TJxc12de 0
theorem nmJxc12de : ∀ a, a < 0 → ∀ b, b < 0 → a ≠ b → (TJxc12de a).2.1 ≠ (TJxc12de b).2.1 := by decide +kernel
theorem tyJxc12de_ok : ∀ k, k < 0 → parseFieldDescriptor (TJxc12de k).2.2.1 = some (tyJxc12de k) := by decide +kernel
abbrev cJxc12de_init_da8c8 : ByteArray := prog_35_method_1_code
def yJxc12de_init_da8c8 : MethodName := ⟨RJxc12de, "<init>", "()V"⟩
def RJx4a65c : String := "java/util/ArrayList"
def TJx4a65c : u_T := fun k => match k with
  | 0 => ("java/util/AbstractList", "modCount", "I", false)
  | 1 => ("java/util/ArrayList", "elementData", "[Ljava/lang/Object;", false)
  | _ => ("java/util/ArrayList", "size", "I", false)
def tyJx4a65c : Nat → FieldType := fun k => match k with
  | 0 => .int
  | 1 => .array (.object "java/lang/Object")
  | _ => .int
abbrev wsJx4a65c0 : List Cond := u_ws RJx4a65c TJx4a65c 3
theorem nmJx4a65c : ∀ a, a < 3 → ∀ b, b < 3 → a ≠ b → (TJx4a65c a).2.1 ≠ (TJx4a65c b).2.1 := by decide +kernel
theorem tyJx4a65c_ok : ∀ k, k < 3 → parseFieldDescriptor (TJx4a65c k).2.2.1 = some (tyJx4a65c k) := by decide +kernel
abbrev cJx4a65c_init_da8c8 : ByteArray := prog_36_method_2_code
def yJx4a65c_init_da8c8 : MethodName := ⟨RJx4a65c, "<init>", "()V"⟩
abbrev cJx4a65c_grow_92f84 : ByteArray := prog_36_method_6_code
def yJx4a65c_grow_92f84 : MethodName := ⟨RJx4a65c, "grow", "(I)[Ljava/lang/Object;"⟩
abbrev cJx4a65c_grow_d5877 : ByteArray := prog_36_method_7_code
def yJx4a65c_grow_d5877 : MethodName := ⟨RJx4a65c, "grow", "()[Ljava/lang/Object;"⟩
abbrev cJx4a65c_size_8abf5 : ByteArray := prog_36_method_8_code
def yJx4a65c_size_8abf5 : MethodName := ⟨RJx4a65c, "size", "()I"⟩
abbrev cJx4a65c_elementData_915e3 : ByteArray := prog_36_method_18_code
def yJx4a65c_elementData_915e3 : MethodName := ⟨RJx4a65c, "elementData", "(I)Ljava/lang/Object;"⟩
abbrev cJx4a65c_get_915e3 : ByteArray := prog_36_method_20_code
def yJx4a65c_get_915e3 : MethodName := ⟨RJx4a65c, "get", "(I)Ljava/lang/Object;"⟩
abbrev cJx4a65c_add_72be8 : ByteArray := prog_36_method_24_code
def yJx4a65c_add_72be8 : MethodName := ⟨RJx4a65c, "add", "(Ljava/lang/Object;[Ljava/lang/Object;I)V"⟩
abbrev cJx4a65c_add_9ea2d : ByteArray := prog_36_method_25_code
def yJx4a65c_add_9ea2d : MethodName := ⟨RJx4a65c, "add", "(Ljava/lang/Object;)Z"⟩
abbrev cJx4a65c_add_7a177 : ByteArray := prog_36_method_26_code
def yJx4a65c_add_7a177 : MethodName := ⟨RJx4a65c, "add", "(ILjava/lang/Object;)V"⟩
abbrev cJx4a65c_rangeCheckForAdd_d00df : ByteArray := prog_36_method_45_code
def yJx4a65c_rangeCheckForAdd_d00df : MethodName := ⟨RJx4a65c, "rangeCheckForAdd", "(I)V"⟩
abbrev cJx4a65c_outOfBoundsMsg_b52d3 : ByteArray := prog_36_method_46_code
def yJx4a65c_outOfBoundsMsg_b52d3 : MethodName := ⟨RJx4a65c, "outOfBoundsMsg", "(I)Ljava/lang/String;"⟩
def RJ7 : String := "java/util/Arrays"
def TJ7 : u_T := fun k => match k with
  | _ => ("", "", "", false)
def tyJ7 : Nat → FieldType := fun k => match k with
  | _ => .int
abbrev wsJ70 : List Cond := u_ws RJ7 TJ7 0
theorem nmJ7 : ∀ a, a < 0 → ∀ b, b < 0 → a ≠ b → (TJ7 a).2.1 ≠ (TJ7 b).2.1 := by decide +kernel
theorem tyJ7_ok : ∀ k, k < 0 → parseFieldDescriptor (TJ7 k).2.2.1 = some (tyJ7 k) := by decide +kernel
abbrev cJ7_fill_53178 : ByteArray := prog_37_method_103_code
def yJ7_fill_53178 : MethodName := ⟨RJ7, "fill", "([II)V"⟩
abbrev cJ7_copyOf_1904c : ByteArray := prog_37_method_119_code
def yJ7_copyOf_1904c : MethodName := ⟨RJ7, "copyOf", "([Ljava/lang/Object;I)[Ljava/lang/Object;"⟩
abbrev cJ7_copyOf_6403c : ByteArray := prog_37_method_120_code
def yJ7_copyOf_6403c : MethodName := ⟨RJ7, "copyOf", "([Ljava/lang/Object;ILjava/lang/Class;)[Ljava/lang/Object;"⟩
abbrev cJ7_copyOf_9075b : ByteArray := prog_37_method_121_code
def yJ7_copyOf_9075b : MethodName := ⟨RJ7, "copyOf", "([BI)[B"⟩
abbrev cJ7_checkLength_df160 : ByteArray := prog_37_method_131_code
def yJ7_checkLength_df160 : MethodName := ⟨RJ7, "checkLength", "(II)V"⟩
abbrev cJ7_copyOfRange_39247 : ByteArray := prog_37_method_132_code
def yJ7_copyOfRange_39247 : MethodName := ⟨RJ7, "copyOfRange", "([BII)[B"⟩
abbrev cJ7_copyOfRangeByte_39247 : ByteArray := prog_37_method_133_code
def yJ7_copyOfRangeByte_39247 : MethodName := ⟨RJ7, "copyOfRangeByte", "([BII)[B"⟩
def RJx5ef63 : String := "java/util/Collection"
def TJx5ef63 : u_T := fun k => match k with
  | _ => ("", "", "", false)
def tyJx5ef63 : Nat → FieldType := fun k => match k with
  | _ => .int
abbrev wsJx5ef630 : List Cond := u_ws RJx5ef63 TJx5ef63 0
theorem nmJx5ef63 : ∀ a, a < 0 → ∀ b, b < 0 → a ≠ b → (TJx5ef63 a).2.1 ≠ (TJx5ef63 b).2.1 := by decide +kernel
theorem tyJx5ef63_ok : ∀ k, k < 0 → parseFieldDescriptor (TJx5ef63 k).2.2.1 = some (tyJx5ef63 k) := by decide +kernel
def RJxbd725 : String := "java/util/List"
def TJxbd725 : u_T := fun k => match k with
  | _ => ("", "", "", false)
def tyJxbd725 : Nat → FieldType := fun k => match k with
  | _ => .int
abbrev wsJxbd7250 : List Cond := u_ws RJxbd725 TJxbd725 0
theorem nmJxbd725 : ∀ a, a < 0 → ∀ b, b < 0 → a ≠ b → (TJxbd725 a).2.1 ≠ (TJxbd725 b).2.1 := by decide +kernel
theorem tyJxbd725_ok : ∀ k, k < 0 → parseFieldDescriptor (TJxbd725 k).2.2.1 = some (tyJxbd725 k) := by decide +kernel
def RJ15 : String := "java/util/Objects"
def TJ15 : u_T := fun k => match k with
  | _ => ("", "", "", false)
def tyJ15 : Nat → FieldType := fun k => match k with
  | _ => .int
abbrev wsJ150 : List Cond := u_ws RJ15 TJ15 0
theorem nmJ15 : ∀ a, a < 0 → ∀ b, b < 0 → a ≠ b → (TJ15 a).2.1 ≠ (TJ15 b).2.1 := by decide +kernel
theorem tyJ15_ok : ∀ k, k < 0 → parseFieldDescriptor (TJ15 k).2.2.1 = some (tyJ15 k) := by decide +kernel
abbrev cJ15_checkIndex_7cf53 : ByteArray := prog_40_method_17_code
def yJ15_checkIndex_7cf53 : MethodName := ⟨RJ15, "checkIndex", "(II)I"⟩
def RJxf0a74 : String := "java/util/RandomAccess"
def TJxf0a74 : u_T := fun k => match k with
  | _ => ("", "", "", false)
def tyJxf0a74 : Nat → FieldType := fun k => match k with
  | _ => .int
abbrev wsJxf0a740 : List Cond := u_ws RJxf0a74 TJxf0a74 0
theorem nmJxf0a74 : ∀ a, a < 0 → ∀ b, b < 0 → a ≠ b → (TJxf0a74 a).2.1 ≠ (TJxf0a74 b).2.1 := by decide +kernel
theorem tyJxf0a74_ok : ∀ k, k < 0 → parseFieldDescriptor (TJxf0a74 k).2.2.1 = some (tyJxf0a74 k) := by decide +kernel
def RJxa66e6 : String := "java/util/SequencedCollection"
def TJxa66e6 : u_T := fun k => match k with
  | _ => ("", "", "", false)
def tyJxa66e6 : Nat → FieldType := fun k => match k with
  | _ => .int
abbrev wsJxa66e60 : List Cond := u_ws RJxa66e6 TJxa66e6 0
theorem nmJxa66e6 : ∀ a, a < 0 → ∀ b, b < 0 → a ≠ b → (TJxa66e6 a).2.1 ≠ (TJxa66e6 b).2.1 := by decide +kernel
theorem tyJxa66e6_ok : ∀ k, k < 0 → parseFieldDescriptor (TJxa66e6 k).2.2.1 = some (tyJxa66e6 k) := by decide +kernel
def RJ8 : String := "jdk/internal/util/ArraysSupport"
def TJ8 : u_T := fun k => match k with
  | _ => ("", "", "", false)
def tyJ8 : Nat → FieldType := fun k => match k with
  | _ => .int
abbrev wsJ80 : List Cond := u_ws RJ8 TJ8 0
theorem nmJ8 : ∀ a, a < 0 → ∀ b, b < 0 → a ≠ b → (TJ8 a).2.1 ≠ (TJ8 b).2.1 := by decide +kernel
theorem tyJ8_ok : ∀ k, k < 0 → parseFieldDescriptor (TJ8 k).2.2.1 = some (tyJ8 k) := by decide +kernel
abbrev cJ8_newLength_cabcc : ByteArray := prog_43_method_27_code
def yJ8_newLength_cabcc : MethodName := ⟨RJ8, "newLength", "(III)I"⟩
abbrev cJ8_hugeLength_7cf53 : ByteArray := prog_43_method_28_code
def yJ8_hugeLength_7cf53 : MethodName := ⟨RJ8, "hugeLength", "(II)I"⟩
def RJ3 : String := "jdk/internal/util/Preconditions"
def TJ3 : u_T := fun k => match k with
  | _ => ("", "", "", false)
def tyJ3 : Nat → FieldType := fun k => match k with
  | _ => .int
abbrev wsJ30 : List Cond := u_ws RJ3 TJ3 0
theorem nmJ3 : ∀ a, a < 0 → ∀ b, b < 0 → a ≠ b → (TJ3 a).2.1 ≠ (TJ3 b).2.1 := by decide +kernel
theorem tyJ3_ok : ∀ k, k < 0 → parseFieldDescriptor (TJ3 k).2.2.1 = some (tyJ3 k) := by decide +kernel
abbrev cJ3_checkIndex_8e157 : ByteArray := prog_44_method_11_code
def yJ3_checkIndex_8e157 : MethodName := ⟨RJ3, "checkIndex", "(IILjava/util/function/BiFunction;)I"⟩
abbrev cJ3_checkFromToIndex_8c36e : ByteArray := prog_44_method_12_code
def yJ3_checkFromToIndex_8c36e : MethodName := ⟨RJ3, "checkFromToIndex", "(IIILjava/util/function/BiFunction;)I"⟩
abbrev cJ3_checkFromIndexSize_8c36e : ByteArray := prog_44_method_13_code
def yJ3_checkFromIndexSize_8c36e : MethodName := ⟨RJ3, "checkFromIndexSize", "(IIILjava/util/function/BiFunction;)I"⟩
def RL : String := "BackdaterLaw"
abbrev cL_open : ByteArray := method_3_code
def yL_open : MethodName := ⟨RL, "open", "(LBackdater;I[J)I"⟩
abbrev cL_setWeight : ByteArray := method_4_code
def yL_setWeight : MethodName := ⟨RL, "setWeight", "(LBackdater;III[J)I"⟩
abbrev cL_pass : ByteArray := method_5_code
def yL_pass : MethodName := ⟨RL, "pass", "(LBackdater;I[J)I"⟩
abbrev cL_change : ByteArray := method_6_code
def yL_change : MethodName := ⟨RL, "change", "(LBackdater;IIII[J)I"⟩
abbrev cL_add : ByteArray := method_7_code
def yL_add : MethodName := ⟨RL, "add", "(LBackdater;IIII[J)I"⟩
abbrev cL_cancel : ByteArray := method_8_code
def yL_cancel : MethodName := ⟨RL, "cancel", "(LBackdater;II[J)I"⟩
abbrev cL_reinstate : ByteArray := method_9_code
def yL_reinstate : MethodName := ⟨RL, "reinstate", "(LBackdater;II[J)I"⟩
abbrev cL_takeBack : ByteArray := method_10_code
def yL_takeBack : MethodName := ⟨RL, "takeBack", "(LBackdater;I[J)I"⟩
abbrev cL_laidAnew : ByteArray := method_11_code
def yL_laidAnew : MethodName := ⟨RL, "laidAnew", "(LBackdater;I[J)I"⟩
abbrev cL_value : ByteArray := method_12_code
def yL_value : MethodName := ⟨RL, "value", "(LBackdater;IIII[J)I"⟩
abbrev cL_isCovered : ByteArray := method_13_code
def yL_isCovered : MethodName := ⟨RL, "isCovered", "(LBackdater;III[J)I"⟩
abbrev cL_rate : ByteArray := method_14_code
def yL_rate : MethodName := ⟨RL, "rate", "(LBackdater;III[J)I"⟩
abbrev cL_segments : ByteArray := method_15_code
def yL_segments : MethodName := ⟨RL, "segments", "(LBackdater;II[J)I"⟩
abbrev cL_segmentStart : ByteArray := method_16_code
def yL_segmentStart : MethodName := ⟨RL, "segmentStart", "(LBackdater;III[J)I"⟩
abbrev cL_segmentPremium : ByteArray := method_17_code
def yL_segmentPremium : MethodName := ⟨RL, "segmentPremium", "(LBackdater;III[J)I"⟩
abbrev cL_premium : ByteArray := method_18_code
def yL_premium : MethodName := ⟨RL, "premium", "(LBackdater;II[J)I"⟩
abbrev cL_premiumByDays : ByteArray := method_19_code
def yL_premiumByDays : MethodName := ⟨RL, "premiumByDays", "(LBackdater;II[J)I"⟩
abbrev cL_bill : ByteArray := method_20_code
def yL_bill : MethodName := ⟨RL, "bill", "(LBackdater;I[J)I"⟩
abbrev cL_billed : ByteArray := method_21_code
def yL_billed : MethodName := ⟨RL, "billed", "(LBackdater;I[J)I"⟩
abbrev cL_law : ByteArray := code
def yL_law : MethodName := ⟨RL, "law", "([I)Z"⟩
def wsX0_init : List Cond := .code yX0_init cX0_init 8 none :: ([.methodLink RX0 3 objectInit, .instanceMethod objectInit, .code objectInit ⟨#[0xb1]⟩ 1 none, .fieldLink RX0 9 "Backdater$Change" "takenBackOn" "I", .fieldLink RX0 15 "Backdater$Change" "number" "I", .fieldLink RX0 18 "Backdater$Change" "policy" "LBackdater$Policy;", .fieldLink RX0 22 "Backdater$Change" "kind" "LBackdater$Kind;", .fieldLink RX0 26 "Backdater$Change" "field" "I", .fieldLink RX0 29 "Backdater$Change" "from" "I", .fieldLink RX0 32 "Backdater$Change" "amount" "I", .fieldLink RX0 35 "Backdater$Change" "toldOn" "I"] ++ wsX00)
def wsX0_isKnownOn : List Cond := .code yX0_isKnownOn cX0_isKnownOn 2 (some .boolean) :: ([.fieldLink RX0 35 "Backdater$Change" "toldOn" "I", .fieldLink RX0 9 "Backdater$Change" "takenBackOn" "I"] ++ wsX00)
def wsJxa1e45_init_da8c8 : List Cond := .code yJxa1e45_init_da8c8 cJxa1e45_init_da8c8 1 none :: ([.methodLink RJxa1e45 1 objectInit, .instanceMethod objectInit, .code objectInit ⟨#[0xb1]⟩ 1 none])
def wsJxc12de_init_da8c8 : List Cond := .code yJxc12de_init_da8c8 cJxc12de_init_da8c8 1 none :: ([.fieldLink RJxc12de 7 "java/util/AbstractList" "modCount" "I", .methodLink RJxc12de 1 yJxa1e45_init_da8c8, .instanceMethod yJxa1e45_init_da8c8, .initialized RJxa1e45, .code yJxa1e45_init_da8c8 cJxa1e45_init_da8c8 1 none, .methodLink RJxa1e45 1 objectInit, .instanceMethod objectInit, .code objectInit ⟨#[0xb1]⟩ 1 none] ++ wsJx4a65c0)
def wsJx4a65c_init_da8c8 : List Cond := .code yJx4a65c_init_da8c8 cJx4a65c_init_da8c8 1 none :: ([.fieldLink RJx4a65c 39 "java/util/ArrayList" "DEFAULTCAPACITY_EMPTY_ELEMENTDATA" "[Ljava/lang/Object;", .fieldLink RJx4a65c 9 "java/util/ArrayList" "elementData" "[Ljava/lang/Object;", .methodLink RJx4a65c 1 yJxc12de_init_da8c8, .instanceMethod yJxc12de_init_da8c8, .initialized RJxc12de, .code yJxc12de_init_da8c8 cJxc12de_init_da8c8 1 none, .fieldLink RJxc12de 7 "java/util/AbstractList" "modCount" "I", .methodLink RJxc12de 1 yJxa1e45_init_da8c8, .instanceMethod yJxa1e45_init_da8c8, .initialized RJxa1e45, .code yJxa1e45_init_da8c8 cJxa1e45_init_da8c8 1 none, .methodLink RJxa1e45 1 objectInit, .instanceMethod objectInit, .code objectInit ⟨#[0xb1]⟩ 1 none] ++ wsJx4a65c0)
def wsX2_init : List Cond := .code yX2_init cX2_init 2 none :: ([.methodLink RX2 1 objectInit, .instanceMethod objectInit, .code objectInit ⟨#[0xb1]⟩ 1 none, .classLink RX2 7 RJx4a65c, .instantiable RJx4a65c 3, .initialized RJx4a65c, .fieldLink RX2 10 "Backdater$Policy" "inOrder" "Ljava/util/List;", .fieldLink RX2 16 "Backdater$Policy" "billedSoFar" "I", .fieldLink RX2 20 "Backdater$Policy" "base" "I", .methodLink RX2 9 yJx4a65c_init_da8c8, .instanceMethod yJx4a65c_init_da8c8, .code yJx4a65c_init_da8c8 cJx4a65c_init_da8c8 1 none, .fieldLink RJx4a65c 39 "java/util/ArrayList" "DEFAULTCAPACITY_EMPTY_ELEMENTDATA" "[Ljava/lang/Object;", .fieldLink RJx4a65c 9 "java/util/ArrayList" "elementData" "[Ljava/lang/Object;", .methodLink RJx4a65c 1 yJxc12de_init_da8c8, .instanceMethod yJxc12de_init_da8c8, .initialized RJxc12de, .code yJxc12de_init_da8c8 cJxc12de_init_da8c8 1 none, .fieldLink RJxc12de 7 "java/util/AbstractList" "modCount" "I", .methodLink RJxc12de 1 yJxa1e45_init_da8c8, .instanceMethod yJxa1e45_init_da8c8, .initialized RJxa1e45, .code yJxa1e45_init_da8c8 cJxa1e45_init_da8c8 1 none, .methodLink RJxa1e45 1 objectInit] ++ wsJx4a65c0 ++ wsX20)
def wsJx4a65c_size_8abf5 : List Cond := .code yJx4a65c_size_8abf5 cJx4a65c_size_8abf5 1 (some .int) :: ([.fieldLink RJx4a65c 48 "java/util/ArrayList" "size" "I"] ++ wsJx4a65c0)
def wsJ3_checkIndex_8e157 : List Cond := .code yJ3_checkIndex_8e157 cJ3_checkIndex_8e157 3 (some .int) :: ([])
def wsJ15_checkIndex_7cf53 : List Cond := .code yJ15_checkIndex_7cf53 cJ15_checkIndex_7cf53 2 (some .int) :: ([.methodLink RJ15 105 yJ3_checkIndex_8e157, .static yJ3_checkIndex_8e157, .initialized RJ3, .code yJ3_checkIndex_8e157 cJ3_checkIndex_8e157 3 (some .int)])
def wsJx4a65c_elementData_915e3 : List Cond := .code yJx4a65c_elementData_915e3 cJx4a65c_elementData_915e3 2 (some (.object "java/lang/Object")) :: ([.fieldLink RJx4a65c 9 "java/util/ArrayList" "elementData" "[Ljava/lang/Object;"] ++ wsJx4a65c0)
def wsJx4a65c_get_915e3 : List Cond := .code yJx4a65c_get_915e3 cJx4a65c_get_915e3 2 (some (.object "java/lang/Object")) :: ([.fieldLink RJx4a65c 48 "java/util/ArrayList" "size" "I", .methodLink RJx4a65c 118 yJ15_checkIndex_7cf53, .static yJ15_checkIndex_7cf53, .initialized RJ15, .code yJ15_checkIndex_7cf53 cJ15_checkIndex_7cf53 2 (some .int), .methodLink RJ15 105 yJ3_checkIndex_8e157, .static yJ3_checkIndex_8e157, .initialized RJ3, .code yJ3_checkIndex_8e157 cJ3_checkIndex_8e157 3 (some .int), .methodLink RJx4a65c 123 yJx4a65c_elementData_915e3, .instanceMethod yJx4a65c_elementData_915e3, .selects RJx4a65c yJx4a65c_elementData_915e3 yJx4a65c_elementData_915e3, .initialized RJx4a65c, .code yJx4a65c_elementData_915e3 cJx4a65c_elementData_915e3 2 (some (.object "java/lang/Object")), .fieldLink RJx4a65c 9 "java/util/ArrayList" "elementData" "[Ljava/lang/Object;"] ++ wsJx4a65c0)
def wsJx4a65c_rangeCheckForAdd_d00df : List Cond := .code yJx4a65c_rangeCheckForAdd_d00df cJx4a65c_rangeCheckForAdd_d00df 2 none :: ([.fieldLink RJx4a65c 48 "java/util/ArrayList" "size" "I"] ++ wsJx4a65c0)
def wsJ8_hugeLength_7cf53 : List Cond := .code yJ8_hugeLength_7cf53 cJ8_hugeLength_7cf53 3 (some .int) :: ([.constant RJ8 200 (2147483639)])
def wsJ8_newLength_cabcc : List Cond := .code yJ8_newLength_cabcc cJ8_newLength_cabcc 4 (some .int) :: ([.methodLink RJ8 194 Lib.Math.max.name, .static Lib.Math.max.name, .initialized "java/lang/Math", .code Lib.Math.max.name Lib.Math.max.code 2 (some .int), .constant RJ8 200 (2147483639), .methodLink RJ8 201 yJ8_hugeLength_7cf53, .static yJ8_hugeLength_7cf53, .initialized RJ8, .code yJ8_hugeLength_7cf53 cJ8_hugeLength_7cf53 3 (some .int)])
def wsJ7_copyOf_6403c : List Cond := .code yJ7_copyOf_6403c cJ7_copyOf_6403c 4 (some (.array (.object "java/lang/Object"))) :: ([.classLink RJ7 110 "[Ljava/lang/Object;", .classLink RJ7 2 "java/lang/Object", .methodLink RJ7 304 Lib.Math.min.name, .static Lib.Math.min.name, .initialized "java/lang/Math", .code Lib.Math.min.name Lib.Math.min.code 2 (some .int), .methodLink RJ7 150 arraycopyName, .native arraycopyName, .static arraycopyName, .initialized "java/lang/System"])
def wsJ7_copyOf_1904c : List Cond := .code yJ7_copyOf_1904c cJ7_copyOf_1904c 2 (some (.array (.object "java/lang/Object"))) :: ([.methodLink RJ7 86 ⟨"java/lang/Object", "getClass", "()Ljava/lang/Class;"⟩, .selects "[Ljava/lang/Object;" ⟨"java/lang/Object", "getClass", "()Ljava/lang/Class;"⟩ ⟨"java/lang/Object", "getClass", "()Ljava/lang/Class;"⟩, .instanceMethod ⟨"java/lang/Object", "getClass", "()Ljava/lang/Class;"⟩, .native ⟨"java/lang/Object", "getClass", "()Ljava/lang/Class;"⟩, .methodLink RJ7 300 yJ7_copyOf_6403c, .static yJ7_copyOf_6403c, .initialized RJ7, .code yJ7_copyOf_6403c cJ7_copyOf_6403c 4 (some (.array (.object "java/lang/Object"))), .classLink RJ7 110 "[Ljava/lang/Object;", .classLink RJ7 2 "java/lang/Object", .methodLink RJ7 304 Lib.Math.min.name, .static Lib.Math.min.name, .initialized "java/lang/Math", .code Lib.Math.min.name Lib.Math.min.code 2 (some .int), .methodLink RJ7 150 arraycopyName, .native arraycopyName, .static arraycopyName, .initialized "java/lang/System"])
def wsJx4a65c_grow_92f84_r1 : List Cond := [Cond.fieldLink RJx4a65c 9 "java/util/ArrayList" "elementData" "[Ljava/lang/Object;", Cond.fieldLink RJx4a65c 39 "java/util/ArrayList" "DEFAULTCAPACITY_EMPTY_ELEMENTDATA" "[Ljava/lang/Object;", Cond.methodLink RJx4a65c 79 Lib.Math.max.name, Cond.static Lib.Math.max.name, Cond.initialized "java/lang/Math", Cond.code Lib.Math.max.name Lib.Math.max.code 2 (some .int), Cond.classLink RJx4a65c 7 "java/lang/Object", Cond.methodLink RJx4a65c 73 yJ8_newLength_cabcc, Cond.static yJ8_newLength_cabcc, Cond.initialized RJ8, Cond.code yJ8_newLength_cabcc cJ8_newLength_cabcc 4 (some .int), Cond.methodLink RJ8 194 Lib.Math.max.name, Cond.constant RJ8 200 (2147483639), Cond.methodLink RJ8 201 yJ8_hugeLength_7cf53, Cond.static yJ8_hugeLength_7cf53, Cond.code yJ8_hugeLength_7cf53 cJ8_hugeLength_7cf53 3 (some .int), Cond.methodLink RJx4a65c 66 yJ7_copyOf_1904c, Cond.static yJ7_copyOf_1904c, Cond.initialized RJ7, Cond.code yJ7_copyOf_1904c cJ7_copyOf_1904c 2 (some (.array (.object "java/lang/Object"))), Cond.methodLink RJ7 86 ⟨"java/lang/Object", "getClass", "()Ljava/lang/Class;"⟩, Cond.selects "[Ljava/lang/Object;" ⟨"java/lang/Object", "getClass", "()Ljava/lang/Class;"⟩ ⟨"java/lang/Object", "getClass", "()Ljava/lang/Class;"⟩, Cond.instanceMethod ⟨"java/lang/Object", "getClass", "()Ljava/lang/Class;"⟩, Cond.native ⟨"java/lang/Object", "getClass", "()Ljava/lang/Class;"⟩]
def wsJx4a65c_grow_92f84_r2 : List Cond := [Cond.methodLink RJ7 300 yJ7_copyOf_6403c, Cond.static yJ7_copyOf_6403c, Cond.code yJ7_copyOf_6403c cJ7_copyOf_6403c 4 (some (.array (.object "java/lang/Object"))), Cond.classLink RJ7 110 "[Ljava/lang/Object;", Cond.classLink RJ7 2 "java/lang/Object", Cond.methodLink RJ7 304 Lib.Math.min.name, Cond.static Lib.Math.min.name, Cond.code Lib.Math.min.name Lib.Math.min.code 2 (some .int), Cond.methodLink RJ7 150 arraycopyName, Cond.native arraycopyName, Cond.static arraycopyName, Cond.initialized "java/lang/System"]
def wsJx4a65c_grow_92f84 : List Cond := .code yJx4a65c_grow_92f84 cJx4a65c_grow_92f84 4 (some (.array (.object "java/lang/Object"))) :: ((wsJx4a65c_grow_92f84_r1 ++ wsJx4a65c_grow_92f84_r2) ++ wsJx4a65c0)
def wsJx4a65c_grow_d5877_r1 : List Cond := [Cond.fieldLink RJx4a65c 48 "java/util/ArrayList" "size" "I", Cond.methodLink RJx4a65c 69 yJx4a65c_grow_92f84, Cond.instanceMethod yJx4a65c_grow_92f84, Cond.selects RJx4a65c yJx4a65c_grow_92f84 yJx4a65c_grow_92f84, Cond.initialized RJx4a65c, Cond.code yJx4a65c_grow_92f84 cJx4a65c_grow_92f84 4 (some (.array (.object "java/lang/Object"))), Cond.fieldLink RJx4a65c 9 "java/util/ArrayList" "elementData" "[Ljava/lang/Object;", Cond.fieldLink RJx4a65c 39 "java/util/ArrayList" "DEFAULTCAPACITY_EMPTY_ELEMENTDATA" "[Ljava/lang/Object;", Cond.methodLink RJx4a65c 79 Lib.Math.max.name, Cond.static Lib.Math.max.name, Cond.initialized "java/lang/Math", Cond.code Lib.Math.max.name Lib.Math.max.code 2 (some .int), Cond.classLink RJx4a65c 7 "java/lang/Object", Cond.methodLink RJx4a65c 73 yJ8_newLength_cabcc, Cond.static yJ8_newLength_cabcc, Cond.initialized RJ8, Cond.code yJ8_newLength_cabcc cJ8_newLength_cabcc 4 (some .int), Cond.methodLink RJ8 194 Lib.Math.max.name, Cond.constant RJ8 200 (2147483639), Cond.methodLink RJ8 201 yJ8_hugeLength_7cf53, Cond.static yJ8_hugeLength_7cf53, Cond.code yJ8_hugeLength_7cf53 cJ8_hugeLength_7cf53 3 (some .int), Cond.methodLink RJx4a65c 66 yJ7_copyOf_1904c, Cond.static yJ7_copyOf_1904c]
def wsJx4a65c_grow_d5877_r2 : List Cond := [Cond.initialized RJ7, Cond.code yJ7_copyOf_1904c cJ7_copyOf_1904c 2 (some (.array (.object "java/lang/Object"))), Cond.methodLink RJ7 86 ⟨"java/lang/Object", "getClass", "()Ljava/lang/Class;"⟩, Cond.selects "[Ljava/lang/Object;" ⟨"java/lang/Object", "getClass", "()Ljava/lang/Class;"⟩ ⟨"java/lang/Object", "getClass", "()Ljava/lang/Class;"⟩, Cond.instanceMethod ⟨"java/lang/Object", "getClass", "()Ljava/lang/Class;"⟩, Cond.native ⟨"java/lang/Object", "getClass", "()Ljava/lang/Class;"⟩, Cond.methodLink RJ7 300 yJ7_copyOf_6403c, Cond.static yJ7_copyOf_6403c, Cond.code yJ7_copyOf_6403c cJ7_copyOf_6403c 4 (some (.array (.object "java/lang/Object"))), Cond.classLink RJ7 110 "[Ljava/lang/Object;", Cond.classLink RJ7 2 "java/lang/Object", Cond.methodLink RJ7 304 Lib.Math.min.name, Cond.static Lib.Math.min.name, Cond.code Lib.Math.min.name Lib.Math.min.code 2 (some .int), Cond.methodLink RJ7 150 arraycopyName, Cond.native arraycopyName, Cond.static arraycopyName, Cond.initialized "java/lang/System"]
def wsJx4a65c_grow_d5877 : List Cond := .code yJx4a65c_grow_d5877 cJx4a65c_grow_d5877 1 (some (.array (.object "java/lang/Object"))) :: ((wsJx4a65c_grow_d5877_r1 ++ wsJx4a65c_grow_d5877_r2) ++ wsJx4a65c0)
def wsJx4a65c_add_7a177_r1 : List Cond := [Cond.fieldLink RJx4a65c 63 "java/util/ArrayList" "modCount" "I", Cond.sameField "java/util/ArrayList" "java/util/AbstractList" "modCount" "I", Cond.fieldLink RJx4a65c 48 "java/util/ArrayList" "size" "I", Cond.fieldLink RJx4a65c 9 "java/util/ArrayList" "elementData" "[Ljava/lang/Object;", Cond.methodLink RJx4a65c 112 arraycopyName, Cond.native arraycopyName, Cond.static arraycopyName, Cond.initialized "java/lang/System", Cond.methodLink RJx4a65c 135 yJx4a65c_rangeCheckForAdd_d00df, Cond.instanceMethod yJx4a65c_rangeCheckForAdd_d00df, Cond.selects RJx4a65c yJx4a65c_rangeCheckForAdd_d00df yJx4a65c_rangeCheckForAdd_d00df, Cond.initialized RJx4a65c, Cond.code yJx4a65c_rangeCheckForAdd_d00df cJx4a65c_rangeCheckForAdd_d00df 2 none, Cond.methodLink RJx4a65c 129 yJx4a65c_grow_d5877, Cond.instanceMethod yJx4a65c_grow_d5877, Cond.selects RJx4a65c yJx4a65c_grow_d5877 yJx4a65c_grow_d5877, Cond.code yJx4a65c_grow_d5877 cJx4a65c_grow_d5877 1 (some (.array (.object "java/lang/Object"))), Cond.methodLink RJx4a65c 69 yJx4a65c_grow_92f84, Cond.instanceMethod yJx4a65c_grow_92f84, Cond.selects RJx4a65c yJx4a65c_grow_92f84 yJx4a65c_grow_92f84, Cond.code yJx4a65c_grow_92f84 cJx4a65c_grow_92f84 4 (some (.array (.object "java/lang/Object"))), Cond.fieldLink RJx4a65c 39 "java/util/ArrayList" "DEFAULTCAPACITY_EMPTY_ELEMENTDATA" "[Ljava/lang/Object;", Cond.methodLink RJx4a65c 79 Lib.Math.max.name, Cond.static Lib.Math.max.name]
def wsJx4a65c_add_7a177_r2 : List Cond := [Cond.initialized "java/lang/Math", Cond.code Lib.Math.max.name Lib.Math.max.code 2 (some .int), Cond.classLink RJx4a65c 7 "java/lang/Object", Cond.methodLink RJx4a65c 73 yJ8_newLength_cabcc, Cond.static yJ8_newLength_cabcc, Cond.initialized RJ8, Cond.code yJ8_newLength_cabcc cJ8_newLength_cabcc 4 (some .int), Cond.methodLink RJ8 194 Lib.Math.max.name, Cond.constant RJ8 200 (2147483639), Cond.methodLink RJ8 201 yJ8_hugeLength_7cf53, Cond.static yJ8_hugeLength_7cf53, Cond.code yJ8_hugeLength_7cf53 cJ8_hugeLength_7cf53 3 (some .int), Cond.methodLink RJx4a65c 66 yJ7_copyOf_1904c, Cond.static yJ7_copyOf_1904c, Cond.initialized RJ7, Cond.code yJ7_copyOf_1904c cJ7_copyOf_1904c 2 (some (.array (.object "java/lang/Object"))), Cond.methodLink RJ7 86 ⟨"java/lang/Object", "getClass", "()Ljava/lang/Class;"⟩, Cond.selects "[Ljava/lang/Object;" ⟨"java/lang/Object", "getClass", "()Ljava/lang/Class;"⟩ ⟨"java/lang/Object", "getClass", "()Ljava/lang/Class;"⟩, Cond.instanceMethod ⟨"java/lang/Object", "getClass", "()Ljava/lang/Class;"⟩, Cond.native ⟨"java/lang/Object", "getClass", "()Ljava/lang/Class;"⟩, Cond.methodLink RJ7 300 yJ7_copyOf_6403c, Cond.static yJ7_copyOf_6403c, Cond.code yJ7_copyOf_6403c cJ7_copyOf_6403c 4 (some (.array (.object "java/lang/Object"))), Cond.classLink RJ7 110 "[Ljava/lang/Object;"]
def wsJx4a65c_add_7a177_r3 : List Cond := [Cond.classLink RJ7 2 "java/lang/Object", Cond.methodLink RJ7 304 Lib.Math.min.name, Cond.static Lib.Math.min.name, Cond.code Lib.Math.min.name Lib.Math.min.code 2 (some .int), Cond.methodLink RJ7 150 arraycopyName]
def wsJx4a65c_add_7a177 : List Cond := .code yJx4a65c_add_7a177 cJx4a65c_add_7a177 5 none :: ((wsJx4a65c_add_7a177_r1 ++ (wsJx4a65c_add_7a177_r2 ++ wsJx4a65c_add_7a177_r3)) ++ wsJx4a65c0)
def wsX2_putInOrder_r1 : List Cond := [Cond.fieldLink RX2 10 "Backdater$Policy" "inOrder" "Ljava/util/List;", Cond.classLink RX2 33 "Backdater$Change", Cond.fieldLink RX2 35 "Backdater$Change" "from" "I", Cond.methodLink RX2 23 ⟨"java/util/List", "size", "()I"⟩, Cond.selects RJx4a65c ⟨"java/util/List", "size", "()I"⟩ yJx4a65c_size_8abf5, Cond.instanceMethod yJx4a65c_size_8abf5, Cond.initialized RJx4a65c, Cond.code yJx4a65c_size_8abf5 cJx4a65c_size_8abf5 1 (some .int), Cond.fieldLink RJx4a65c 48 "java/util/ArrayList" "size" "I", Cond.methodLink RX2 29 ⟨"java/util/List", "get", "(I)Ljava/lang/Object;"⟩, Cond.selects RJx4a65c ⟨"java/util/List", "get", "(I)Ljava/lang/Object;"⟩ yJx4a65c_get_915e3, Cond.instanceMethod yJx4a65c_get_915e3, Cond.code yJx4a65c_get_915e3 cJx4a65c_get_915e3 2 (some (.object "java/lang/Object")), Cond.methodLink RJx4a65c 118 yJ15_checkIndex_7cf53, Cond.static yJ15_checkIndex_7cf53, Cond.initialized RJ15, Cond.code yJ15_checkIndex_7cf53 cJ15_checkIndex_7cf53 2 (some .int), Cond.methodLink RJ15 105 yJ3_checkIndex_8e157, Cond.static yJ3_checkIndex_8e157, Cond.initialized RJ3, Cond.code yJ3_checkIndex_8e157 cJ3_checkIndex_8e157 3 (some .int), Cond.methodLink RJx4a65c 123 yJx4a65c_elementData_915e3, Cond.instanceMethod yJx4a65c_elementData_915e3, Cond.selects RJx4a65c yJx4a65c_elementData_915e3 yJx4a65c_elementData_915e3]
def wsX2_putInOrder_r2 : List Cond := [Cond.code yJx4a65c_elementData_915e3 cJx4a65c_elementData_915e3 2 (some (.object "java/lang/Object")), Cond.fieldLink RJx4a65c 9 "java/util/ArrayList" "elementData" "[Ljava/lang/Object;", Cond.methodLink RX2 38 ⟨"java/util/List", "add", "(ILjava/lang/Object;)V"⟩, Cond.selects RJx4a65c ⟨"java/util/List", "add", "(ILjava/lang/Object;)V"⟩ yJx4a65c_add_7a177, Cond.instanceMethod yJx4a65c_add_7a177, Cond.code yJx4a65c_add_7a177 cJx4a65c_add_7a177 5 none, Cond.fieldLink RJx4a65c 63 "java/util/ArrayList" "modCount" "I", Cond.sameField "java/util/ArrayList" "java/util/AbstractList" "modCount" "I", Cond.methodLink RJx4a65c 112 arraycopyName, Cond.native arraycopyName, Cond.static arraycopyName, Cond.initialized "java/lang/System", Cond.methodLink RJx4a65c 135 yJx4a65c_rangeCheckForAdd_d00df, Cond.instanceMethod yJx4a65c_rangeCheckForAdd_d00df, Cond.selects RJx4a65c yJx4a65c_rangeCheckForAdd_d00df yJx4a65c_rangeCheckForAdd_d00df, Cond.code yJx4a65c_rangeCheckForAdd_d00df cJx4a65c_rangeCheckForAdd_d00df 2 none, Cond.methodLink RJx4a65c 129 yJx4a65c_grow_d5877, Cond.instanceMethod yJx4a65c_grow_d5877, Cond.selects RJx4a65c yJx4a65c_grow_d5877 yJx4a65c_grow_d5877, Cond.code yJx4a65c_grow_d5877 cJx4a65c_grow_d5877 1 (some (.array (.object "java/lang/Object"))), Cond.methodLink RJx4a65c 69 yJx4a65c_grow_92f84, Cond.instanceMethod yJx4a65c_grow_92f84, Cond.selects RJx4a65c yJx4a65c_grow_92f84 yJx4a65c_grow_92f84, Cond.code yJx4a65c_grow_92f84 cJx4a65c_grow_92f84 4 (some (.array (.object "java/lang/Object")))]
def wsX2_putInOrder_r3 : List Cond := [Cond.fieldLink RJx4a65c 39 "java/util/ArrayList" "DEFAULTCAPACITY_EMPTY_ELEMENTDATA" "[Ljava/lang/Object;", Cond.methodLink RJx4a65c 79 Lib.Math.max.name, Cond.static Lib.Math.max.name, Cond.initialized "java/lang/Math", Cond.code Lib.Math.max.name Lib.Math.max.code 2 (some .int), Cond.classLink RJx4a65c 7 "java/lang/Object", Cond.methodLink RJx4a65c 73 yJ8_newLength_cabcc, Cond.static yJ8_newLength_cabcc, Cond.initialized RJ8, Cond.code yJ8_newLength_cabcc cJ8_newLength_cabcc 4 (some .int), Cond.methodLink RJ8 194 Lib.Math.max.name, Cond.constant RJ8 200 (2147483639), Cond.methodLink RJ8 201 yJ8_hugeLength_7cf53, Cond.static yJ8_hugeLength_7cf53, Cond.code yJ8_hugeLength_7cf53 cJ8_hugeLength_7cf53 3 (some .int), Cond.methodLink RJx4a65c 66 yJ7_copyOf_1904c, Cond.static yJ7_copyOf_1904c, Cond.initialized RJ7, Cond.code yJ7_copyOf_1904c cJ7_copyOf_1904c 2 (some (.array (.object "java/lang/Object"))), Cond.methodLink RJ7 86 ⟨"java/lang/Object", "getClass", "()Ljava/lang/Class;"⟩, Cond.selects "[Ljava/lang/Object;" ⟨"java/lang/Object", "getClass", "()Ljava/lang/Class;"⟩ ⟨"java/lang/Object", "getClass", "()Ljava/lang/Class;"⟩, Cond.instanceMethod ⟨"java/lang/Object", "getClass", "()Ljava/lang/Class;"⟩, Cond.native ⟨"java/lang/Object", "getClass", "()Ljava/lang/Class;"⟩, Cond.methodLink RJ7 300 yJ7_copyOf_6403c]
def wsX2_putInOrder_r4 : List Cond := [Cond.static yJ7_copyOf_6403c, Cond.code yJ7_copyOf_6403c cJ7_copyOf_6403c 4 (some (.array (.object "java/lang/Object"))), Cond.classLink RJ7 110 "[Ljava/lang/Object;", Cond.classLink RJ7 2 "java/lang/Object", Cond.methodLink RJ7 304 Lib.Math.min.name, Cond.static Lib.Math.min.name, Cond.code Lib.Math.min.name Lib.Math.min.code 2 (some .int), Cond.methodLink RJ7 150 arraycopyName]
def wsX2_putInOrder : List Cond := .code yX2_putInOrder cX2_putInOrder 3 none :: ((wsX2_putInOrder_r1 ++ (wsX2_putInOrder_r2 ++ (wsX2_putInOrder_r3 ++ wsX2_putInOrder_r4))) ++ wsX20 ++ wsX00 ++ wsJx4a65c0)
def wsJ7_fill_53178 : List Cond := .code yJ7_fill_53178 cJ7_fill_53178 4 none :: ([])
def wsX3_init : List Cond := .code yX3_init cX3_init 2 none :: ([.methodLink RX3 3 objectInit, .instanceMethod objectInit, .code objectInit ⟨#[0xb1]⟩ 1 none, .classLink RX3 9 "[[I", .arrayClass .int, .fieldLink RX3 11 "Backdater$Tariffs" "weights" "[[I", .fieldLink RX3 16 "Backdater$Tariffs" "since" "[[I", .fieldLink RX3 19 "Backdater$Tariffs" "count" "I", .methodLink RX3 23 yJ7_fill_53178, .static yJ7_fill_53178, .initialized RJ7, .code yJ7_fill_53178 cJ7_fill_53178 4 none] ++ wsX30)
def wsX6_isField : List Cond := .code yX6_isField cX6_isField 1 (some .boolean) :: ([])
def wsX3_tell : List Cond := .code yX3_tell cX3_tell 5 none :: ([.fieldLink RX3 16 "Backdater$Tariffs" "since" "[[I", .fieldLink RX3 11 "Backdater$Tariffs" "weights" "[[I", .fieldLink RX3 19 "Backdater$Tariffs" "count" "I", .static yX6_isField, .initialized RX6, .code yX6_isField cX6_isField 1 (some .boolean)] ++ wsX30)
def wsX6_isDay : List Cond := .code yX6_isDay cX6_isDay 1 (some .boolean) :: ([])
def wsX3_weightOn : List Cond := .code yX3_weightOn cX3_weightOn 3 (some .int) :: ([.fieldLink RX3 11 "Backdater$Tariffs" "weights" "[[I", .static yX6_isField, .initialized RX6, .code yX6_isField cX6_isField 1 (some .boolean), .static yX6_isDay, .code yX6_isDay cX6_isDay 1 (some .boolean)] ++ wsX30)
def wsX4_init : List Cond := .code yX4_init cX4_init 1 none :: ([.methodLink RX4 3 objectInit, .instanceMethod objectInit, .code objectInit ⟨#[0xb1]⟩ 1 none, .arrayClass .int, .fieldLink RX4 9 "Backdater$Version" "values" "[I", .fieldLink RX4 15 "Backdater$Version" "covered" "Z"] ++ wsX40)
def wsX4_begin : List Cond := .code yX4_begin cX4_begin 1 none :: ([.fieldLink RX4 9 "Backdater$Version" "values" "[I", .fieldLink RX4 15 "Backdater$Version" "covered" "Z", .methodLink RX4 19 yJ7_fill_53178, .static yJ7_fill_53178, .initialized RJ7, .code yJ7_fill_53178 cJ7_fill_53178 4 none] ++ wsX40)
def wsX4_putValue : List Cond := .code yX4_putValue cX4_putValue 3 none :: ([.fieldLink RX4 9 "Backdater$Version" "values" "[I", .static yX6_isField, .initialized RX6, .code yX6_isField cX6_isField 1 (some .boolean)] ++ wsX40)
def wsX4_valueOf : List Cond := .code yX4_valueOf cX4_valueOf 2 (some .int) :: ([.fieldLink RX4 9 "Backdater$Version" "values" "[I", .static yX6_isField, .initialized RX6, .code yX6_isField cX6_isField 1 (some .boolean)] ++ wsX40)
def wsX4_layIn_r1 : List Cond := [Cond.fieldLink RX4 25 "Backdater$Change" "kind" "LBackdater$Kind;", Cond.fieldLink RX4 31 "Backdater$Kind" "SET" "LBackdater$Kind;", Cond.fieldLink RX4 36 "Backdater$Change" "field" "I", Cond.fieldLink RX4 40 "Backdater$Change" "amount" "I", Cond.fieldLink RX4 47 "Backdater$Kind" "ADD" "LBackdater$Kind;", Cond.methodLink RX4 54 Lib.Math.max.name, Cond.static Lib.Math.max.name, Cond.initialized "java/lang/Math", Cond.code Lib.Math.max.name Lib.Math.max.code 2 (some .int), Cond.methodLink RX4 60 Lib.Math.min.name, Cond.static Lib.Math.min.name, Cond.code Lib.Math.min.name Lib.Math.min.code 2 (some .int), Cond.fieldLink RX4 63 "Backdater$Kind" "REINSTATE" "LBackdater$Kind;", Cond.fieldLink RX4 15 "Backdater$Version" "covered" "Z", Cond.methodLink RX4 43 yX4_putValue, Cond.instanceMethod yX4_putValue, Cond.selects RX4 yX4_putValue yX4_putValue, Cond.initialized RX4, Cond.code yX4_putValue cX4_putValue 3 none, Cond.fieldLink RX4 9 "Backdater$Version" "values" "[I", Cond.static yX6_isField, Cond.initialized RX6, Cond.code yX6_isField cX6_isField 1 (some .boolean), Cond.methodLink RX4 50 yX4_valueOf]
def wsX4_layIn_r2 : List Cond := [Cond.instanceMethod yX4_valueOf, Cond.selects RX4 yX4_valueOf yX4_valueOf, Cond.code yX4_valueOf cX4_valueOf 2 (some .int)]
def wsX4_layIn : List Cond := .code yX4_layIn cX4_layIn 3 none :: ((wsX4_layIn_r1 ++ wsX4_layIn_r2) ++ wsX00 ++ wsX40)
def wsX5_init : List Cond := .code yX5_init cX5_init 1 none :: ([.methodLink RX5 3 objectInit, .instanceMethod objectInit, .code objectInit ⟨#[0xb1]⟩ 1 none, .arrayClass .int, .fieldLink RX5 9 "Backdater$Year" "rates" "[I", .fieldLink RX5 15 "Backdater$Year" "sums" "[I"] ++ wsX50)
def wsX5_putRate : List Cond := .code yX5_putRate cX5_putRate 3 none :: ([.fieldLink RX5 9 "Backdater$Year" "rates" "[I", .fieldLink RX5 15 "Backdater$Year" "sums" "[I", .static yX6_isDay, .initialized RX6, .code yX6_isDay cX6_isDay 1 (some .boolean)] ++ wsX50)
def wsX5_isStart : List Cond := .code yX5_isStart cX5_isStart 2 (some .boolean) :: ([.fieldLink RX5 9 "Backdater$Year" "rates" "[I", .static yX6_isDay, .initialized RX6, .code yX6_isDay cX6_isDay 1 (some .boolean)] ++ wsX50)
def wsX5_countSegments : List Cond := .code yX5_countSegments cX5_countSegments 3 (some .int) :: ([.methodLink RX5 22 yX5_isStart, .instanceMethod yX5_isStart, .selects RX5 yX5_isStart yX5_isStart, .initialized RX5, .code yX5_isStart cX5_isStart 2 (some .boolean), .fieldLink RX5 9 "Backdater$Year" "rates" "[I", .static yX6_isDay, .initialized RX6, .code yX6_isDay cX6_isDay 1 (some .boolean)] ++ wsX50)
def wsX5_startOf : List Cond := .code yX5_startOf cX5_startOf 4 (some .int) :: ([.methodLink RX5 22 yX5_isStart, .instanceMethod yX5_isStart, .selects RX5 yX5_isStart yX5_isStart, .initialized RX5, .code yX5_isStart cX5_isStart 2 (some .boolean), .fieldLink RX5 9 "Backdater$Year" "rates" "[I", .static yX6_isDay, .initialized RX6, .code yX6_isDay cX6_isDay 1 (some .boolean)] ++ wsX50)
def wsX5_dayBehindSegmentFrom : List Cond := .code yX5_dayBehindSegmentFrom cX5_dayBehindSegmentFrom 3 (some .int) :: ([.fieldLink RX5 9 "Backdater$Year" "rates" "[I", .static yX6_isDay, .initialized RX6, .code yX6_isDay cX6_isDay 1 (some .boolean)] ++ wsX50)
def wsX5_chargeUpTo : List Cond := .code yX5_chargeUpTo cX5_chargeUpTo 2 (some .int) :: ([.fieldLink RX5 15 "Backdater$Year" "sums" "[I"] ++ wsX50)
def wsX5_premiumOfSegmentFrom : List Cond := .code yX5_premiumOfSegmentFrom cX5_premiumOfSegmentFrom 2 (some .int) :: ([.methodLink RX5 25 yX5_dayBehindSegmentFrom, .instanceMethod yX5_dayBehindSegmentFrom, .selects RX5 yX5_dayBehindSegmentFrom yX5_dayBehindSegmentFrom, .initialized RX5, .code yX5_dayBehindSegmentFrom cX5_dayBehindSegmentFrom 3 (some .int), .fieldLink RX5 9 "Backdater$Year" "rates" "[I", .static yX6_isDay, .initialized RX6, .code yX6_isDay cX6_isDay 1 (some .boolean), .methodLink RX5 29 yX5_chargeUpTo, .instanceMethod yX5_chargeUpTo, .selects RX5 yX5_chargeUpTo yX5_chargeUpTo, .code yX5_chargeUpTo cX5_chargeUpTo 2 (some .int), .fieldLink RX5 15 "Backdater$Year" "sums" "[I"] ++ wsX50)
def wsX5_sumOfPremiums : List Cond := .code yX5_sumOfPremiums cX5_sumOfPremiums 3 (some .int) :: ([.methodLink RX5 22 yX5_isStart, .instanceMethod yX5_isStart, .selects RX5 yX5_isStart yX5_isStart, .initialized RX5, .code yX5_isStart cX5_isStart 2 (some .boolean), .fieldLink RX5 9 "Backdater$Year" "rates" "[I", .static yX6_isDay, .initialized RX6, .code yX6_isDay cX6_isDay 1 (some .boolean), .methodLink RX5 32 yX5_premiumOfSegmentFrom, .instanceMethod yX5_premiumOfSegmentFrom, .selects RX5 yX5_premiumOfSegmentFrom yX5_premiumOfSegmentFrom, .code yX5_premiumOfSegmentFrom cX5_premiumOfSegmentFrom 2 (some .int), .methodLink RX5 25 yX5_dayBehindSegmentFrom, .instanceMethod yX5_dayBehindSegmentFrom, .selects RX5 yX5_dayBehindSegmentFrom yX5_dayBehindSegmentFrom, .code yX5_dayBehindSegmentFrom cX5_dayBehindSegmentFrom 3 (some .int), .methodLink RX5 29 yX5_chargeUpTo, .instanceMethod yX5_chargeUpTo, .selects RX5 yX5_chargeUpTo yX5_chargeUpTo, .code yX5_chargeUpTo cX5_chargeUpTo 2 (some .int), .fieldLink RX5 15 "Backdater$Year" "sums" "[I"] ++ wsX50)
def wsX6_init_r1 : List Cond := [Cond.methodLink RX6 1 objectInit, Cond.instanceMethod objectInit, Cond.code objectInit ⟨#[0xb1]⟩ 1 none, Cond.classLink RX6 7 RJx4a65c, Cond.instantiable RJx4a65c 3, Cond.initialized RJx4a65c, Cond.fieldLink RX6 10 "Backdater" "policies" "Ljava/util/List;", Cond.fieldLink RX6 16 "Backdater" "told" "Ljava/util/List;", Cond.classLink RX6 19 RX3, Cond.instantiable RX3 3, Cond.initialized RX3, Cond.fieldLink RX6 22 "Backdater" "tariffs" "LBackdater$Tariffs;", Cond.classLink RX6 26 RX4, Cond.instantiable RX4 2, Cond.initialized RX4, Cond.fieldLink RX6 29 "Backdater" "version" "LBackdater$Version;", Cond.classLink RX6 33 RX5, Cond.instantiable RX5 2, Cond.initialized RX5, Cond.fieldLink RX6 36 "Backdater" "year" "LBackdater$Year;", Cond.fieldLink RX6 40 "Backdater" "currentDay" "I", Cond.methodLink RX6 9 yJx4a65c_init_da8c8, Cond.instanceMethod yJx4a65c_init_da8c8, Cond.code yJx4a65c_init_da8c8 cJx4a65c_init_da8c8 1 none]
def wsX6_init_r2 : List Cond := [Cond.fieldLink RJx4a65c 39 "java/util/ArrayList" "DEFAULTCAPACITY_EMPTY_ELEMENTDATA" "[Ljava/lang/Object;", Cond.fieldLink RJx4a65c 9 "java/util/ArrayList" "elementData" "[Ljava/lang/Object;", Cond.methodLink RJx4a65c 1 yJxc12de_init_da8c8, Cond.instanceMethod yJxc12de_init_da8c8, Cond.initialized RJxc12de, Cond.code yJxc12de_init_da8c8 cJxc12de_init_da8c8 1 none, Cond.fieldLink RJxc12de 7 "java/util/AbstractList" "modCount" "I", Cond.methodLink RJxc12de 1 yJxa1e45_init_da8c8, Cond.instanceMethod yJxa1e45_init_da8c8, Cond.initialized RJxa1e45, Cond.code yJxa1e45_init_da8c8 cJxa1e45_init_da8c8 1 none, Cond.methodLink RJxa1e45 1 objectInit, Cond.methodLink RX6 21 yX3_init, Cond.instanceMethod yX3_init, Cond.code yX3_init cX3_init 2 none, Cond.methodLink RX3 3 objectInit, Cond.classLink RX3 9 "[[I", Cond.arrayClass .int, Cond.fieldLink RX3 11 "Backdater$Tariffs" "weights" "[[I", Cond.fieldLink RX3 16 "Backdater$Tariffs" "since" "[[I", Cond.fieldLink RX3 19 "Backdater$Tariffs" "count" "I", Cond.methodLink RX3 23 yJ7_fill_53178, Cond.static yJ7_fill_53178, Cond.initialized RJ7]
def wsX6_init_r3 : List Cond := [Cond.code yJ7_fill_53178 cJ7_fill_53178 4 none, Cond.instanceMethod yX4_init, Cond.code yX4_init cX4_init 1 none, Cond.methodLink RX4 3 objectInit, Cond.fieldLink RX4 9 "Backdater$Version" "values" "[I", Cond.fieldLink RX4 15 "Backdater$Version" "covered" "Z", Cond.instanceMethod yX5_init, Cond.code yX5_init cX5_init 1 none, Cond.methodLink RX5 3 objectInit, Cond.fieldLink RX5 9 "Backdater$Year" "rates" "[I", Cond.fieldLink RX5 15 "Backdater$Year" "sums" "[I"]
def wsX6_init : List Cond := .code yX6_init cX6_init 1 none :: ((wsX6_init_r1 ++ (wsX6_init_r2 ++ wsX6_init_r3)) ++ wsJx4a65c0 ++ wsX60 ++ wsX30 ++ wsX40 ++ wsX50)
def wsX6_demandWithin : List Cond := .code yX6_demandWithin cX6_demandWithin 3 none :: ([.classLink RX6 180 "java/lang/IllegalArgumentException", .initialized "java/lang/IllegalArgumentException"] ++ (vx_atS RX6 184 "java/lang/IllegalArgumentException" ["java/lang/RuntimeException", "java/lang/Exception"]).filter goodWord)
def wsJx4a65c_add_72be8_r1 : List Cond := [Cond.fieldLink RJx4a65c 48 "java/util/ArrayList" "size" "I", Cond.methodLink RJx4a65c 129 yJx4a65c_grow_d5877, Cond.instanceMethod yJx4a65c_grow_d5877, Cond.selects RJx4a65c yJx4a65c_grow_d5877 yJx4a65c_grow_d5877, Cond.initialized RJx4a65c, Cond.code yJx4a65c_grow_d5877 cJx4a65c_grow_d5877 1 (some (.array (.object "java/lang/Object"))), Cond.methodLink RJx4a65c 69 yJx4a65c_grow_92f84, Cond.instanceMethod yJx4a65c_grow_92f84, Cond.selects RJx4a65c yJx4a65c_grow_92f84 yJx4a65c_grow_92f84, Cond.code yJx4a65c_grow_92f84 cJx4a65c_grow_92f84 4 (some (.array (.object "java/lang/Object"))), Cond.fieldLink RJx4a65c 9 "java/util/ArrayList" "elementData" "[Ljava/lang/Object;", Cond.fieldLink RJx4a65c 39 "java/util/ArrayList" "DEFAULTCAPACITY_EMPTY_ELEMENTDATA" "[Ljava/lang/Object;", Cond.methodLink RJx4a65c 79 Lib.Math.max.name, Cond.static Lib.Math.max.name, Cond.initialized "java/lang/Math", Cond.code Lib.Math.max.name Lib.Math.max.code 2 (some .int), Cond.classLink RJx4a65c 7 "java/lang/Object", Cond.methodLink RJx4a65c 73 yJ8_newLength_cabcc, Cond.static yJ8_newLength_cabcc, Cond.initialized RJ8, Cond.code yJ8_newLength_cabcc cJ8_newLength_cabcc 4 (some .int), Cond.methodLink RJ8 194 Lib.Math.max.name, Cond.constant RJ8 200 (2147483639), Cond.methodLink RJ8 201 yJ8_hugeLength_7cf53]
def wsJx4a65c_add_72be8_r2 : List Cond := [Cond.static yJ8_hugeLength_7cf53, Cond.code yJ8_hugeLength_7cf53 cJ8_hugeLength_7cf53 3 (some .int), Cond.methodLink RJx4a65c 66 yJ7_copyOf_1904c, Cond.static yJ7_copyOf_1904c, Cond.initialized RJ7, Cond.code yJ7_copyOf_1904c cJ7_copyOf_1904c 2 (some (.array (.object "java/lang/Object"))), Cond.methodLink RJ7 86 ⟨"java/lang/Object", "getClass", "()Ljava/lang/Class;"⟩, Cond.selects "[Ljava/lang/Object;" ⟨"java/lang/Object", "getClass", "()Ljava/lang/Class;"⟩ ⟨"java/lang/Object", "getClass", "()Ljava/lang/Class;"⟩, Cond.instanceMethod ⟨"java/lang/Object", "getClass", "()Ljava/lang/Class;"⟩, Cond.native ⟨"java/lang/Object", "getClass", "()Ljava/lang/Class;"⟩, Cond.methodLink RJ7 300 yJ7_copyOf_6403c, Cond.static yJ7_copyOf_6403c, Cond.code yJ7_copyOf_6403c cJ7_copyOf_6403c 4 (some (.array (.object "java/lang/Object"))), Cond.classLink RJ7 110 "[Ljava/lang/Object;", Cond.classLink RJ7 2 "java/lang/Object", Cond.methodLink RJ7 304 Lib.Math.min.name, Cond.static Lib.Math.min.name, Cond.code Lib.Math.min.name Lib.Math.min.code 2 (some .int), Cond.methodLink RJ7 150 arraycopyName, Cond.native arraycopyName, Cond.static arraycopyName, Cond.initialized "java/lang/System"]
def wsJx4a65c_add_72be8 : List Cond := .code yJx4a65c_add_72be8 cJx4a65c_add_72be8 4 none :: ((wsJx4a65c_add_72be8_r1 ++ wsJx4a65c_add_72be8_r2) ++ wsJx4a65c0)
def wsJx4a65c_add_9ea2d_r1 : List Cond := [Cond.fieldLink RJx4a65c 63 "java/util/ArrayList" "modCount" "I", Cond.sameField "java/util/ArrayList" "java/util/AbstractList" "modCount" "I", Cond.fieldLink RJx4a65c 9 "java/util/ArrayList" "elementData" "[Ljava/lang/Object;", Cond.fieldLink RJx4a65c 48 "java/util/ArrayList" "size" "I", Cond.methodLink RJx4a65c 131 yJx4a65c_add_72be8, Cond.instanceMethod yJx4a65c_add_72be8, Cond.selects RJx4a65c yJx4a65c_add_72be8 yJx4a65c_add_72be8, Cond.initialized RJx4a65c, Cond.code yJx4a65c_add_72be8 cJx4a65c_add_72be8 4 none, Cond.methodLink RJx4a65c 129 yJx4a65c_grow_d5877, Cond.instanceMethod yJx4a65c_grow_d5877, Cond.selects RJx4a65c yJx4a65c_grow_d5877 yJx4a65c_grow_d5877, Cond.code yJx4a65c_grow_d5877 cJx4a65c_grow_d5877 1 (some (.array (.object "java/lang/Object"))), Cond.methodLink RJx4a65c 69 yJx4a65c_grow_92f84, Cond.instanceMethod yJx4a65c_grow_92f84, Cond.selects RJx4a65c yJx4a65c_grow_92f84 yJx4a65c_grow_92f84, Cond.code yJx4a65c_grow_92f84 cJx4a65c_grow_92f84 4 (some (.array (.object "java/lang/Object"))), Cond.fieldLink RJx4a65c 39 "java/util/ArrayList" "DEFAULTCAPACITY_EMPTY_ELEMENTDATA" "[Ljava/lang/Object;", Cond.methodLink RJx4a65c 79 Lib.Math.max.name, Cond.static Lib.Math.max.name, Cond.initialized "java/lang/Math", Cond.code Lib.Math.max.name Lib.Math.max.code 2 (some .int), Cond.classLink RJx4a65c 7 "java/lang/Object", Cond.methodLink RJx4a65c 73 yJ8_newLength_cabcc]
def wsJx4a65c_add_9ea2d_r2 : List Cond := [Cond.static yJ8_newLength_cabcc, Cond.initialized RJ8, Cond.code yJ8_newLength_cabcc cJ8_newLength_cabcc 4 (some .int), Cond.methodLink RJ8 194 Lib.Math.max.name, Cond.constant RJ8 200 (2147483639), Cond.methodLink RJ8 201 yJ8_hugeLength_7cf53, Cond.static yJ8_hugeLength_7cf53, Cond.code yJ8_hugeLength_7cf53 cJ8_hugeLength_7cf53 3 (some .int), Cond.methodLink RJx4a65c 66 yJ7_copyOf_1904c, Cond.static yJ7_copyOf_1904c, Cond.initialized RJ7, Cond.code yJ7_copyOf_1904c cJ7_copyOf_1904c 2 (some (.array (.object "java/lang/Object"))), Cond.methodLink RJ7 86 ⟨"java/lang/Object", "getClass", "()Ljava/lang/Class;"⟩, Cond.selects "[Ljava/lang/Object;" ⟨"java/lang/Object", "getClass", "()Ljava/lang/Class;"⟩ ⟨"java/lang/Object", "getClass", "()Ljava/lang/Class;"⟩, Cond.instanceMethod ⟨"java/lang/Object", "getClass", "()Ljava/lang/Class;"⟩, Cond.native ⟨"java/lang/Object", "getClass", "()Ljava/lang/Class;"⟩, Cond.methodLink RJ7 300 yJ7_copyOf_6403c, Cond.static yJ7_copyOf_6403c, Cond.code yJ7_copyOf_6403c cJ7_copyOf_6403c 4 (some (.array (.object "java/lang/Object"))), Cond.classLink RJ7 110 "[Ljava/lang/Object;", Cond.classLink RJ7 2 "java/lang/Object", Cond.methodLink RJ7 304 Lib.Math.min.name, Cond.static Lib.Math.min.name, Cond.code Lib.Math.min.name Lib.Math.min.code 2 (some .int)]
def wsJx4a65c_add_9ea2d_r3 : List Cond := [Cond.methodLink RJ7 150 arraycopyName, Cond.native arraycopyName, Cond.static arraycopyName, Cond.initialized "java/lang/System"]
def wsJx4a65c_add_9ea2d : List Cond := .code yJx4a65c_add_9ea2d cJx4a65c_add_9ea2d 2 (some .boolean) :: ((wsJx4a65c_add_9ea2d_r1 ++ (wsJx4a65c_add_9ea2d_r2 ++ wsJx4a65c_add_9ea2d_r3)) ++ wsJx4a65c0)
def wsX6_open_r1 : List Cond := [Cond.classLink RX6 54 "java/lang/IllegalStateException", Cond.initialized "java/lang/IllegalStateException", Cond.fieldLink RX6 10 "Backdater" "policies" "Ljava/util/List;", Cond.classLink RX6 61 RX2, Cond.instantiable RX2 3, Cond.initialized RX2, Cond.methodLink RX6 44 yX6_demandWithin, Cond.static yX6_demandWithin, Cond.initialized RX6, Cond.code yX6_demandWithin cX6_demandWithin 3 none, Cond.classLink RX6 180 "java/lang/IllegalArgumentException", Cond.initialized "java/lang/IllegalArgumentException", Cond.methodLink RX6 48 ⟨"java/util/List", "size", "()I"⟩, Cond.selects RJx4a65c ⟨"java/util/List", "size", "()I"⟩ yJx4a65c_size_8abf5, Cond.instanceMethod yJx4a65c_size_8abf5, Cond.initialized RJx4a65c, Cond.code yJx4a65c_size_8abf5 cJx4a65c_size_8abf5 1 (some .int), Cond.fieldLink RJx4a65c 48 "java/util/ArrayList" "size" "I", Cond.methodLink RX6 63 yX2_init, Cond.instanceMethod yX2_init, Cond.code yX2_init cX2_init 2 none, Cond.methodLink RX2 1 objectInit, Cond.instanceMethod objectInit, Cond.code objectInit ⟨#[0xb1]⟩ 1 none]
def wsX6_open_r2 : List Cond := [Cond.classLink RX2 7 RJx4a65c, Cond.instantiable RJx4a65c 3, Cond.fieldLink RX2 10 "Backdater$Policy" "inOrder" "Ljava/util/List;", Cond.fieldLink RX2 16 "Backdater$Policy" "billedSoFar" "I", Cond.fieldLink RX2 20 "Backdater$Policy" "base" "I", Cond.methodLink RX2 9 yJx4a65c_init_da8c8, Cond.instanceMethod yJx4a65c_init_da8c8, Cond.code yJx4a65c_init_da8c8 cJx4a65c_init_da8c8 1 none, Cond.fieldLink RJx4a65c 39 "java/util/ArrayList" "DEFAULTCAPACITY_EMPTY_ELEMENTDATA" "[Ljava/lang/Object;", Cond.fieldLink RJx4a65c 9 "java/util/ArrayList" "elementData" "[Ljava/lang/Object;", Cond.methodLink RJx4a65c 1 yJxc12de_init_da8c8, Cond.instanceMethod yJxc12de_init_da8c8, Cond.initialized RJxc12de, Cond.code yJxc12de_init_da8c8 cJxc12de_init_da8c8 1 none, Cond.fieldLink RJxc12de 7 "java/util/AbstractList" "modCount" "I", Cond.methodLink RJxc12de 1 yJxa1e45_init_da8c8, Cond.instanceMethod yJxa1e45_init_da8c8, Cond.initialized RJxa1e45, Cond.code yJxa1e45_init_da8c8 cJxa1e45_init_da8c8 1 none, Cond.methodLink RJxa1e45 1 objectInit, Cond.methodLink RX6 66 ⟨"java/util/List", "add", "(Ljava/lang/Object;)Z"⟩, Cond.selects RJx4a65c ⟨"java/util/List", "add", "(Ljava/lang/Object;)Z"⟩ yJx4a65c_add_9ea2d, Cond.instanceMethod yJx4a65c_add_9ea2d, Cond.code yJx4a65c_add_9ea2d cJx4a65c_add_9ea2d 2 (some .boolean)]
def wsX6_open_r3 : List Cond := [Cond.fieldLink RJx4a65c 63 "java/util/ArrayList" "modCount" "I", Cond.sameField "java/util/ArrayList" "java/util/AbstractList" "modCount" "I", Cond.methodLink RJx4a65c 131 yJx4a65c_add_72be8, Cond.instanceMethod yJx4a65c_add_72be8, Cond.selects RJx4a65c yJx4a65c_add_72be8 yJx4a65c_add_72be8, Cond.code yJx4a65c_add_72be8 cJx4a65c_add_72be8 4 none, Cond.methodLink RJx4a65c 129 yJx4a65c_grow_d5877, Cond.instanceMethod yJx4a65c_grow_d5877, Cond.selects RJx4a65c yJx4a65c_grow_d5877 yJx4a65c_grow_d5877, Cond.code yJx4a65c_grow_d5877 cJx4a65c_grow_d5877 1 (some (.array (.object "java/lang/Object"))), Cond.methodLink RJx4a65c 69 yJx4a65c_grow_92f84, Cond.instanceMethod yJx4a65c_grow_92f84, Cond.selects RJx4a65c yJx4a65c_grow_92f84 yJx4a65c_grow_92f84, Cond.code yJx4a65c_grow_92f84 cJx4a65c_grow_92f84 4 (some (.array (.object "java/lang/Object"))), Cond.methodLink RJx4a65c 79 Lib.Math.max.name, Cond.static Lib.Math.max.name, Cond.initialized "java/lang/Math", Cond.code Lib.Math.max.name Lib.Math.max.code 2 (some .int), Cond.classLink RJx4a65c 7 "java/lang/Object", Cond.methodLink RJx4a65c 73 yJ8_newLength_cabcc, Cond.static yJ8_newLength_cabcc, Cond.initialized RJ8, Cond.code yJ8_newLength_cabcc cJ8_newLength_cabcc 4 (some .int), Cond.methodLink RJ8 194 Lib.Math.max.name]
def wsX6_open_r4 : List Cond := [Cond.constant RJ8 200 (2147483639), Cond.methodLink RJ8 201 yJ8_hugeLength_7cf53, Cond.static yJ8_hugeLength_7cf53, Cond.code yJ8_hugeLength_7cf53 cJ8_hugeLength_7cf53 3 (some .int), Cond.methodLink RJx4a65c 66 yJ7_copyOf_1904c, Cond.static yJ7_copyOf_1904c, Cond.initialized RJ7, Cond.code yJ7_copyOf_1904c cJ7_copyOf_1904c 2 (some (.array (.object "java/lang/Object"))), Cond.methodLink RJ7 86 ⟨"java/lang/Object", "getClass", "()Ljava/lang/Class;"⟩, Cond.selects "[Ljava/lang/Object;" ⟨"java/lang/Object", "getClass", "()Ljava/lang/Class;"⟩ ⟨"java/lang/Object", "getClass", "()Ljava/lang/Class;"⟩, Cond.instanceMethod ⟨"java/lang/Object", "getClass", "()Ljava/lang/Class;"⟩, Cond.native ⟨"java/lang/Object", "getClass", "()Ljava/lang/Class;"⟩, Cond.methodLink RJ7 300 yJ7_copyOf_6403c, Cond.static yJ7_copyOf_6403c, Cond.code yJ7_copyOf_6403c cJ7_copyOf_6403c 4 (some (.array (.object "java/lang/Object"))), Cond.classLink RJ7 110 "[Ljava/lang/Object;", Cond.classLink RJ7 2 "java/lang/Object", Cond.methodLink RJ7 304 Lib.Math.min.name, Cond.static Lib.Math.min.name, Cond.code Lib.Math.min.name Lib.Math.min.code 2 (some .int), Cond.methodLink RJ7 150 arraycopyName, Cond.native arraycopyName, Cond.static arraycopyName, Cond.initialized "java/lang/System"]
def wsX6_open : List Cond := .code yX6_open cX6_open 2 (some .int) :: ((wsX6_open_r1 ++ (wsX6_open_r2 ++ (wsX6_open_r3 ++ wsX6_open_r4))) ++ wsX60 ++ wsX20 ++ wsJx4a65c0 ++ (vx_atS RX6 58 "java/lang/IllegalStateException" ["java/lang/RuntimeException", "java/lang/Exception"]).filter goodWord ++ (vx_atS RX6 184 "java/lang/IllegalArgumentException" ["java/lang/RuntimeException", "java/lang/Exception"]).filter goodWord)
def wsX6_demandField : List Cond := .code yX6_demandField cX6_demandField 1 none :: ([.classLink RX6 188 "java/lang/IndexOutOfBoundsException", .initialized "java/lang/IndexOutOfBoundsException", .methodLink RX6 185 yX6_isField, .static yX6_isField, .initialized RX6, .code yX6_isField cX6_isField 1 (some .boolean)] ++ (vx_atS RX6 192 "java/lang/IndexOutOfBoundsException" ["java/lang/RuntimeException", "java/lang/Exception"]).filter goodWord)
def wsX6_demandDay : List Cond := .code yX6_demandDay cX6_demandDay 1 none :: ([.methodLink RX6 44 yX6_demandWithin, .static yX6_demandWithin, .initialized RX6, .code yX6_demandWithin cX6_demandWithin 3 none, .classLink RX6 180 "java/lang/IllegalArgumentException", .initialized "java/lang/IllegalArgumentException"] ++ (vx_atS RX6 184 "java/lang/IllegalArgumentException" ["java/lang/RuntimeException", "java/lang/Exception"]).filter goodWord)
def wsX6_setWeight_r1 : List Cond := [Cond.classLink RX6 54 "java/lang/IllegalStateException", Cond.initialized "java/lang/IllegalStateException", Cond.fieldLink RX6 22 "Backdater" "tariffs" "LBackdater$Tariffs;", Cond.fieldLink RX6 76 "Backdater$Tariffs" "count" "I", Cond.methodLink RX6 70 yX6_demandField, Cond.static yX6_demandField, Cond.initialized RX6, Cond.code yX6_demandField cX6_demandField 1 none, Cond.classLink RX6 188 "java/lang/IndexOutOfBoundsException", Cond.initialized "java/lang/IndexOutOfBoundsException", Cond.methodLink RX6 185 yX6_isField, Cond.static yX6_isField, Cond.code yX6_isField cX6_isField 1 (some .boolean), Cond.methodLink RX6 44 yX6_demandWithin, Cond.static yX6_demandWithin, Cond.code yX6_demandWithin cX6_demandWithin 3 none, Cond.classLink RX6 180 "java/lang/IllegalArgumentException", Cond.initialized "java/lang/IllegalArgumentException", Cond.methodLink RX6 73 yX6_demandDay, Cond.static yX6_demandDay, Cond.code yX6_demandDay cX6_demandDay 1 none, Cond.methodLink RX6 81 yX3_tell, Cond.instanceMethod yX3_tell, Cond.selects RX3 yX3_tell yX3_tell]
def wsX6_setWeight_r2 : List Cond := [Cond.initialized RX3, Cond.code yX3_tell cX3_tell 5 none, Cond.fieldLink RX3 16 "Backdater$Tariffs" "since" "[[I", Cond.fieldLink RX3 11 "Backdater$Tariffs" "weights" "[[I", Cond.fieldLink RX3 19 "Backdater$Tariffs" "count" "I"]
def wsX6_setWeight : List Cond := .code yX6_setWeight cX6_setWeight 4 (some .int) :: ((wsX6_setWeight_r1 ++ wsX6_setWeight_r2) ++ wsX60 ++ wsX30 ++ (vx_atS RX6 58 "java/lang/IllegalStateException" ["java/lang/RuntimeException", "java/lang/Exception"]).filter goodWord ++ (vx_atS RX6 192 "java/lang/IndexOutOfBoundsException" ["java/lang/RuntimeException", "java/lang/Exception"]).filter goodWord ++ (vx_atS RX6 184 "java/lang/IllegalArgumentException" ["java/lang/RuntimeException", "java/lang/Exception"]).filter goodWord)
def wsX6_pass : List Cond := .code yX6_pass cX6_pass 2 (some .int) :: ([.fieldLink RX6 40 "Backdater" "currentDay" "I", .methodLink RX6 44 yX6_demandWithin, .static yX6_demandWithin, .initialized RX6, .code yX6_demandWithin cX6_demandWithin 3 none, .classLink RX6 180 "java/lang/IllegalArgumentException", .initialized "java/lang/IllegalArgumentException"] ++ wsX60 ++ (vx_atS RX6 184 "java/lang/IllegalArgumentException" ["java/lang/RuntimeException", "java/lang/Exception"]).filter goodWord)
def wsX6_today : List Cond := .code yX6_today cX6_today 1 (some .int) :: ([.fieldLink RX6 40 "Backdater" "currentDay" "I"] ++ wsX60)
def wsX6_policyNumbered_r1 : List Cond := [Cond.classLink RX6 188 "java/lang/IndexOutOfBoundsException", Cond.initialized "java/lang/IndexOutOfBoundsException", Cond.fieldLink RX6 10 "Backdater" "policies" "Ljava/util/List;", Cond.classLink RX6 61 "Backdater$Policy", Cond.methodLink RX6 48 ⟨"java/util/List", "size", "()I"⟩, Cond.selects RJx4a65c ⟨"java/util/List", "size", "()I"⟩ yJx4a65c_size_8abf5, Cond.instanceMethod yJx4a65c_size_8abf5, Cond.initialized RJx4a65c, Cond.code yJx4a65c_size_8abf5 cJx4a65c_size_8abf5 1 (some .int), Cond.fieldLink RJx4a65c 48 "java/util/ArrayList" "size" "I", Cond.methodLink RX6 127 ⟨"java/util/List", "get", "(I)Ljava/lang/Object;"⟩, Cond.selects RJx4a65c ⟨"java/util/List", "get", "(I)Ljava/lang/Object;"⟩ yJx4a65c_get_915e3, Cond.instanceMethod yJx4a65c_get_915e3, Cond.code yJx4a65c_get_915e3 cJx4a65c_get_915e3 2 (some (.object "java/lang/Object")), Cond.methodLink RJx4a65c 118 yJ15_checkIndex_7cf53, Cond.static yJ15_checkIndex_7cf53, Cond.initialized RJ15, Cond.code yJ15_checkIndex_7cf53 cJ15_checkIndex_7cf53 2 (some .int), Cond.methodLink RJ15 105 yJ3_checkIndex_8e157, Cond.static yJ3_checkIndex_8e157, Cond.initialized RJ3, Cond.code yJ3_checkIndex_8e157 cJ3_checkIndex_8e157 3 (some .int), Cond.methodLink RJx4a65c 123 yJx4a65c_elementData_915e3, Cond.instanceMethod yJx4a65c_elementData_915e3]
def wsX6_policyNumbered_r2 : List Cond := [Cond.selects RJx4a65c yJx4a65c_elementData_915e3 yJx4a65c_elementData_915e3, Cond.code yJx4a65c_elementData_915e3 cJx4a65c_elementData_915e3 2 (some (.object "java/lang/Object")), Cond.fieldLink RJx4a65c 9 "java/util/ArrayList" "elementData" "[Ljava/lang/Object;"]
def wsX6_policyNumbered : List Cond := .code yX6_policyNumbered cX6_policyNumbered 2 (some (.object "Backdater$Policy")) :: ((wsX6_policyNumbered_r1 ++ wsX6_policyNumbered_r2) ++ wsX60 ++ wsJx4a65c0 ++ (vx_atS RX6 192 "java/lang/IndexOutOfBoundsException" ["java/lang/RuntimeException", "java/lang/Exception"]).filter goodWord)
def wsX6_tell_r1 : List Cond := [Cond.classLink RX6 54 "java/lang/IllegalStateException", Cond.initialized "java/lang/IllegalStateException", Cond.fieldLink RX6 16 "Backdater" "told" "Ljava/util/List;", Cond.classLink RX6 111 RX0, Cond.instantiable RX0 8, Cond.initialized RX0, Cond.fieldLink RX6 40 "Backdater" "currentDay" "I", Cond.fieldLink RX6 131 "Backdater$Change" "number" "I", Cond.methodLink RX6 48 ⟨"java/util/List", "size", "()I"⟩, Cond.selects RJx4a65c ⟨"java/util/List", "size", "()I"⟩ yJx4a65c_size_8abf5, Cond.instanceMethod yJx4a65c_size_8abf5, Cond.initialized RJx4a65c, Cond.code yJx4a65c_size_8abf5 cJx4a65c_size_8abf5 1 (some .int), Cond.fieldLink RJx4a65c 48 "java/util/ArrayList" "size" "I", Cond.methodLink RX6 199 yX0_init, Cond.instanceMethod yX0_init, Cond.code yX0_init cX0_init 8 none, Cond.methodLink RX0 3 objectInit, Cond.instanceMethod objectInit, Cond.code objectInit ⟨#[0xb1]⟩ 1 none, Cond.fieldLink RX0 9 "Backdater$Change" "takenBackOn" "I", Cond.fieldLink RX0 15 "Backdater$Change" "number" "I", Cond.fieldLink RX0 18 "Backdater$Change" "policy" "LBackdater$Policy;", Cond.fieldLink RX0 22 "Backdater$Change" "kind" "LBackdater$Kind;"]
def wsX6_tell_r2 : List Cond := [Cond.fieldLink RX0 26 "Backdater$Change" "field" "I", Cond.fieldLink RX0 29 "Backdater$Change" "from" "I", Cond.fieldLink RX0 32 "Backdater$Change" "amount" "I", Cond.fieldLink RX0 35 "Backdater$Change" "toldOn" "I", Cond.methodLink RX6 66 ⟨"java/util/List", "add", "(Ljava/lang/Object;)Z"⟩, Cond.selects RJx4a65c ⟨"java/util/List", "add", "(Ljava/lang/Object;)Z"⟩ yJx4a65c_add_9ea2d, Cond.instanceMethod yJx4a65c_add_9ea2d, Cond.code yJx4a65c_add_9ea2d cJx4a65c_add_9ea2d 2 (some .boolean), Cond.fieldLink RJx4a65c 63 "java/util/ArrayList" "modCount" "I", Cond.sameField "java/util/ArrayList" "java/util/AbstractList" "modCount" "I", Cond.fieldLink RJx4a65c 9 "java/util/ArrayList" "elementData" "[Ljava/lang/Object;", Cond.methodLink RJx4a65c 131 yJx4a65c_add_72be8, Cond.instanceMethod yJx4a65c_add_72be8, Cond.selects RJx4a65c yJx4a65c_add_72be8 yJx4a65c_add_72be8, Cond.code yJx4a65c_add_72be8 cJx4a65c_add_72be8 4 none, Cond.methodLink RJx4a65c 129 yJx4a65c_grow_d5877, Cond.instanceMethod yJx4a65c_grow_d5877, Cond.selects RJx4a65c yJx4a65c_grow_d5877 yJx4a65c_grow_d5877, Cond.code yJx4a65c_grow_d5877 cJx4a65c_grow_d5877 1 (some (.array (.object "java/lang/Object"))), Cond.methodLink RJx4a65c 69 yJx4a65c_grow_92f84, Cond.instanceMethod yJx4a65c_grow_92f84, Cond.selects RJx4a65c yJx4a65c_grow_92f84 yJx4a65c_grow_92f84, Cond.code yJx4a65c_grow_92f84 cJx4a65c_grow_92f84 4 (some (.array (.object "java/lang/Object"))), Cond.fieldLink RJx4a65c 39 "java/util/ArrayList" "DEFAULTCAPACITY_EMPTY_ELEMENTDATA" "[Ljava/lang/Object;"]
def wsX6_tell_r3 : List Cond := [Cond.methodLink RJx4a65c 79 Lib.Math.max.name, Cond.static Lib.Math.max.name, Cond.initialized "java/lang/Math", Cond.code Lib.Math.max.name Lib.Math.max.code 2 (some .int), Cond.classLink RJx4a65c 7 "java/lang/Object", Cond.methodLink RJx4a65c 73 yJ8_newLength_cabcc, Cond.static yJ8_newLength_cabcc, Cond.initialized RJ8, Cond.code yJ8_newLength_cabcc cJ8_newLength_cabcc 4 (some .int), Cond.methodLink RJ8 194 Lib.Math.max.name, Cond.constant RJ8 200 (2147483639), Cond.methodLink RJ8 201 yJ8_hugeLength_7cf53, Cond.static yJ8_hugeLength_7cf53, Cond.code yJ8_hugeLength_7cf53 cJ8_hugeLength_7cf53 3 (some .int), Cond.methodLink RJx4a65c 66 yJ7_copyOf_1904c, Cond.static yJ7_copyOf_1904c, Cond.initialized RJ7, Cond.code yJ7_copyOf_1904c cJ7_copyOf_1904c 2 (some (.array (.object "java/lang/Object"))), Cond.methodLink RJ7 86 ⟨"java/lang/Object", "getClass", "()Ljava/lang/Class;"⟩, Cond.selects "[Ljava/lang/Object;" ⟨"java/lang/Object", "getClass", "()Ljava/lang/Class;"⟩ ⟨"java/lang/Object", "getClass", "()Ljava/lang/Class;"⟩, Cond.instanceMethod ⟨"java/lang/Object", "getClass", "()Ljava/lang/Class;"⟩, Cond.native ⟨"java/lang/Object", "getClass", "()Ljava/lang/Class;"⟩, Cond.methodLink RJ7 300 yJ7_copyOf_6403c, Cond.static yJ7_copyOf_6403c]
def wsX6_tell_r4 : List Cond := [Cond.code yJ7_copyOf_6403c cJ7_copyOf_6403c 4 (some (.array (.object "java/lang/Object"))), Cond.classLink RJ7 110 "[Ljava/lang/Object;", Cond.classLink RJ7 2 "java/lang/Object", Cond.methodLink RJ7 304 Lib.Math.min.name, Cond.static Lib.Math.min.name, Cond.code Lib.Math.min.name Lib.Math.min.code 2 (some .int), Cond.methodLink RJ7 150 arraycopyName, Cond.native arraycopyName, Cond.static arraycopyName, Cond.initialized "java/lang/System", Cond.methodLink RX6 202 yX2_putInOrder, Cond.instanceMethod yX2_putInOrder, Cond.selects RX2 yX2_putInOrder yX2_putInOrder, Cond.initialized RX2, Cond.code yX2_putInOrder cX2_putInOrder 3 none, Cond.fieldLink RX2 10 "Backdater$Policy" "inOrder" "Ljava/util/List;", Cond.classLink RX2 33 "Backdater$Change", Cond.fieldLink RX2 35 "Backdater$Change" "from" "I", Cond.methodLink RX2 23 ⟨"java/util/List", "size", "()I"⟩, Cond.methodLink RX2 29 ⟨"java/util/List", "get", "(I)Ljava/lang/Object;"⟩, Cond.selects RJx4a65c ⟨"java/util/List", "get", "(I)Ljava/lang/Object;"⟩ yJx4a65c_get_915e3, Cond.instanceMethod yJx4a65c_get_915e3, Cond.code yJx4a65c_get_915e3 cJx4a65c_get_915e3 2 (some (.object "java/lang/Object")), Cond.methodLink RJx4a65c 118 yJ15_checkIndex_7cf53]
def wsX6_tell_r5 : List Cond := [Cond.static yJ15_checkIndex_7cf53, Cond.initialized RJ15, Cond.code yJ15_checkIndex_7cf53 cJ15_checkIndex_7cf53 2 (some .int), Cond.methodLink RJ15 105 yJ3_checkIndex_8e157, Cond.static yJ3_checkIndex_8e157, Cond.initialized RJ3, Cond.code yJ3_checkIndex_8e157 cJ3_checkIndex_8e157 3 (some .int), Cond.methodLink RJx4a65c 123 yJx4a65c_elementData_915e3, Cond.instanceMethod yJx4a65c_elementData_915e3, Cond.selects RJx4a65c yJx4a65c_elementData_915e3 yJx4a65c_elementData_915e3, Cond.code yJx4a65c_elementData_915e3 cJx4a65c_elementData_915e3 2 (some (.object "java/lang/Object")), Cond.methodLink RX2 38 ⟨"java/util/List", "add", "(ILjava/lang/Object;)V"⟩, Cond.selects RJx4a65c ⟨"java/util/List", "add", "(ILjava/lang/Object;)V"⟩ yJx4a65c_add_7a177, Cond.instanceMethod yJx4a65c_add_7a177, Cond.code yJx4a65c_add_7a177 cJx4a65c_add_7a177 5 none, Cond.methodLink RJx4a65c 112 arraycopyName, Cond.methodLink RJx4a65c 135 yJx4a65c_rangeCheckForAdd_d00df, Cond.instanceMethod yJx4a65c_rangeCheckForAdd_d00df, Cond.selects RJx4a65c yJx4a65c_rangeCheckForAdd_d00df yJx4a65c_rangeCheckForAdd_d00df, Cond.code yJx4a65c_rangeCheckForAdd_d00df cJx4a65c_rangeCheckForAdd_d00df 2 none]
def wsX6_tell : List Cond := .code yX6_tell cX6_tell 7 (some .int) :: ((wsX6_tell_r1 ++ (wsX6_tell_r2 ++ (wsX6_tell_r3 ++ (wsX6_tell_r4 ++ wsX6_tell_r5)))) ++ wsX60 ++ wsX00 ++ wsJx4a65c0 ++ wsX20 ++ (vx_atS RX6 58 "java/lang/IllegalStateException" ["java/lang/RuntimeException", "java/lang/Exception"]).filter goodWord)
def wsX6_change_r1 : List Cond := [Cond.fieldLink RX6 88 "Backdater$Kind" "SET" "LBackdater$Kind;", Cond.methodLink RX6 84 yX6_policyNumbered, Cond.instanceMethod yX6_policyNumbered, Cond.selects RX6 yX6_policyNumbered yX6_policyNumbered, Cond.initialized RX6, Cond.code yX6_policyNumbered cX6_policyNumbered 2 (some (.object "Backdater$Policy")), Cond.classLink RX6 188 "java/lang/IndexOutOfBoundsException", Cond.initialized "java/lang/IndexOutOfBoundsException", Cond.fieldLink RX6 10 "Backdater" "policies" "Ljava/util/List;", Cond.classLink RX6 61 "Backdater$Policy", Cond.methodLink RX6 48 ⟨"java/util/List", "size", "()I"⟩, Cond.selects RJx4a65c ⟨"java/util/List", "size", "()I"⟩ yJx4a65c_size_8abf5, Cond.instanceMethod yJx4a65c_size_8abf5, Cond.initialized RJx4a65c, Cond.code yJx4a65c_size_8abf5 cJx4a65c_size_8abf5 1 (some .int), Cond.fieldLink RJx4a65c 48 "java/util/ArrayList" "size" "I", Cond.methodLink RX6 127 ⟨"java/util/List", "get", "(I)Ljava/lang/Object;"⟩, Cond.selects RJx4a65c ⟨"java/util/List", "get", "(I)Ljava/lang/Object;"⟩ yJx4a65c_get_915e3, Cond.instanceMethod yJx4a65c_get_915e3, Cond.code yJx4a65c_get_915e3 cJx4a65c_get_915e3 2 (some (.object "java/lang/Object")), Cond.methodLink RJx4a65c 118 yJ15_checkIndex_7cf53, Cond.static yJ15_checkIndex_7cf53, Cond.initialized RJ15, Cond.code yJ15_checkIndex_7cf53 cJ15_checkIndex_7cf53 2 (some .int)]
def wsX6_change_r2 : List Cond := [Cond.methodLink RJ15 105 yJ3_checkIndex_8e157, Cond.static yJ3_checkIndex_8e157, Cond.initialized RJ3, Cond.code yJ3_checkIndex_8e157 cJ3_checkIndex_8e157 3 (some .int), Cond.methodLink RJx4a65c 123 yJx4a65c_elementData_915e3, Cond.instanceMethod yJx4a65c_elementData_915e3, Cond.selects RJx4a65c yJx4a65c_elementData_915e3 yJx4a65c_elementData_915e3, Cond.code yJx4a65c_elementData_915e3 cJx4a65c_elementData_915e3 2 (some (.object "java/lang/Object")), Cond.fieldLink RJx4a65c 9 "java/util/ArrayList" "elementData" "[Ljava/lang/Object;", Cond.methodLink RX6 70 yX6_demandField, Cond.static yX6_demandField, Cond.code yX6_demandField cX6_demandField 1 none, Cond.methodLink RX6 185 yX6_isField, Cond.static yX6_isField, Cond.code yX6_isField cX6_isField 1 (some .boolean), Cond.methodLink RX6 73 yX6_demandDay, Cond.static yX6_demandDay, Cond.code yX6_demandDay cX6_demandDay 1 none, Cond.methodLink RX6 44 yX6_demandWithin, Cond.static yX6_demandWithin, Cond.code yX6_demandWithin cX6_demandWithin 3 none, Cond.classLink RX6 180 "java/lang/IllegalArgumentException", Cond.initialized "java/lang/IllegalArgumentException", Cond.methodLink RX6 94 yX6_tell]
def wsX6_change_r3 : List Cond := [Cond.instanceMethod yX6_tell, Cond.selects RX6 yX6_tell yX6_tell, Cond.code yX6_tell cX6_tell 7 (some .int), Cond.classLink RX6 54 "java/lang/IllegalStateException", Cond.initialized "java/lang/IllegalStateException", Cond.fieldLink RX6 16 "Backdater" "told" "Ljava/util/List;", Cond.classLink RX6 111 RX0, Cond.instantiable RX0 8, Cond.initialized RX0, Cond.fieldLink RX6 40 "Backdater" "currentDay" "I", Cond.fieldLink RX6 131 "Backdater$Change" "number" "I", Cond.methodLink RX6 199 yX0_init, Cond.instanceMethod yX0_init, Cond.code yX0_init cX0_init 8 none, Cond.methodLink RX0 3 objectInit, Cond.instanceMethod objectInit, Cond.code objectInit ⟨#[0xb1]⟩ 1 none, Cond.fieldLink RX0 9 "Backdater$Change" "takenBackOn" "I", Cond.fieldLink RX0 15 "Backdater$Change" "number" "I", Cond.fieldLink RX0 18 "Backdater$Change" "policy" "LBackdater$Policy;", Cond.fieldLink RX0 22 "Backdater$Change" "kind" "LBackdater$Kind;", Cond.fieldLink RX0 26 "Backdater$Change" "field" "I", Cond.fieldLink RX0 29 "Backdater$Change" "from" "I", Cond.fieldLink RX0 32 "Backdater$Change" "amount" "I"]
def wsX6_change_r4 : List Cond := [Cond.fieldLink RX0 35 "Backdater$Change" "toldOn" "I", Cond.methodLink RX6 66 ⟨"java/util/List", "add", "(Ljava/lang/Object;)Z"⟩, Cond.selects RJx4a65c ⟨"java/util/List", "add", "(Ljava/lang/Object;)Z"⟩ yJx4a65c_add_9ea2d, Cond.instanceMethod yJx4a65c_add_9ea2d, Cond.code yJx4a65c_add_9ea2d cJx4a65c_add_9ea2d 2 (some .boolean), Cond.fieldLink RJx4a65c 63 "java/util/ArrayList" "modCount" "I", Cond.sameField "java/util/ArrayList" "java/util/AbstractList" "modCount" "I", Cond.methodLink RJx4a65c 131 yJx4a65c_add_72be8, Cond.instanceMethod yJx4a65c_add_72be8, Cond.selects RJx4a65c yJx4a65c_add_72be8 yJx4a65c_add_72be8, Cond.code yJx4a65c_add_72be8 cJx4a65c_add_72be8 4 none, Cond.methodLink RJx4a65c 129 yJx4a65c_grow_d5877, Cond.instanceMethod yJx4a65c_grow_d5877, Cond.selects RJx4a65c yJx4a65c_grow_d5877 yJx4a65c_grow_d5877, Cond.code yJx4a65c_grow_d5877 cJx4a65c_grow_d5877 1 (some (.array (.object "java/lang/Object"))), Cond.methodLink RJx4a65c 69 yJx4a65c_grow_92f84, Cond.instanceMethod yJx4a65c_grow_92f84, Cond.selects RJx4a65c yJx4a65c_grow_92f84 yJx4a65c_grow_92f84, Cond.code yJx4a65c_grow_92f84 cJx4a65c_grow_92f84 4 (some (.array (.object "java/lang/Object"))), Cond.fieldLink RJx4a65c 39 "java/util/ArrayList" "DEFAULTCAPACITY_EMPTY_ELEMENTDATA" "[Ljava/lang/Object;", Cond.methodLink RJx4a65c 79 Lib.Math.max.name, Cond.static Lib.Math.max.name, Cond.initialized "java/lang/Math", Cond.code Lib.Math.max.name Lib.Math.max.code 2 (some .int)]
def wsX6_change_r5 : List Cond := [Cond.classLink RJx4a65c 7 "java/lang/Object", Cond.methodLink RJx4a65c 73 yJ8_newLength_cabcc, Cond.static yJ8_newLength_cabcc, Cond.initialized RJ8, Cond.code yJ8_newLength_cabcc cJ8_newLength_cabcc 4 (some .int), Cond.methodLink RJ8 194 Lib.Math.max.name, Cond.constant RJ8 200 (2147483639), Cond.methodLink RJ8 201 yJ8_hugeLength_7cf53, Cond.static yJ8_hugeLength_7cf53, Cond.code yJ8_hugeLength_7cf53 cJ8_hugeLength_7cf53 3 (some .int), Cond.methodLink RJx4a65c 66 yJ7_copyOf_1904c, Cond.static yJ7_copyOf_1904c, Cond.initialized RJ7, Cond.code yJ7_copyOf_1904c cJ7_copyOf_1904c 2 (some (.array (.object "java/lang/Object"))), Cond.methodLink RJ7 86 ⟨"java/lang/Object", "getClass", "()Ljava/lang/Class;"⟩, Cond.selects "[Ljava/lang/Object;" ⟨"java/lang/Object", "getClass", "()Ljava/lang/Class;"⟩ ⟨"java/lang/Object", "getClass", "()Ljava/lang/Class;"⟩, Cond.instanceMethod ⟨"java/lang/Object", "getClass", "()Ljava/lang/Class;"⟩, Cond.native ⟨"java/lang/Object", "getClass", "()Ljava/lang/Class;"⟩, Cond.methodLink RJ7 300 yJ7_copyOf_6403c, Cond.static yJ7_copyOf_6403c, Cond.code yJ7_copyOf_6403c cJ7_copyOf_6403c 4 (some (.array (.object "java/lang/Object"))), Cond.classLink RJ7 110 "[Ljava/lang/Object;", Cond.classLink RJ7 2 "java/lang/Object", Cond.methodLink RJ7 304 Lib.Math.min.name]
def wsX6_change_r6 : List Cond := [Cond.static Lib.Math.min.name, Cond.code Lib.Math.min.name Lib.Math.min.code 2 (some .int), Cond.methodLink RJ7 150 arraycopyName, Cond.native arraycopyName, Cond.static arraycopyName, Cond.initialized "java/lang/System", Cond.methodLink RX6 202 yX2_putInOrder, Cond.instanceMethod yX2_putInOrder, Cond.selects RX2 yX2_putInOrder yX2_putInOrder, Cond.initialized RX2, Cond.code yX2_putInOrder cX2_putInOrder 3 none, Cond.fieldLink RX2 10 "Backdater$Policy" "inOrder" "Ljava/util/List;", Cond.classLink RX2 33 "Backdater$Change", Cond.fieldLink RX2 35 "Backdater$Change" "from" "I", Cond.methodLink RX2 23 ⟨"java/util/List", "size", "()I"⟩, Cond.methodLink RX2 29 ⟨"java/util/List", "get", "(I)Ljava/lang/Object;"⟩, Cond.methodLink RX2 38 ⟨"java/util/List", "add", "(ILjava/lang/Object;)V"⟩, Cond.selects RJx4a65c ⟨"java/util/List", "add", "(ILjava/lang/Object;)V"⟩ yJx4a65c_add_7a177, Cond.instanceMethod yJx4a65c_add_7a177, Cond.code yJx4a65c_add_7a177 cJx4a65c_add_7a177 5 none, Cond.methodLink RJx4a65c 112 arraycopyName, Cond.methodLink RJx4a65c 135 yJx4a65c_rangeCheckForAdd_d00df, Cond.instanceMethod yJx4a65c_rangeCheckForAdd_d00df, Cond.selects RJx4a65c yJx4a65c_rangeCheckForAdd_d00df yJx4a65c_rangeCheckForAdd_d00df]
def wsX6_change_r7 : List Cond := [Cond.code yJx4a65c_rangeCheckForAdd_d00df cJx4a65c_rangeCheckForAdd_d00df 2 none]
def wsX6_change : List Cond := .code yX6_change cX6_change 6 (some .int) :: ((wsX6_change_r1 ++ (wsX6_change_r2 ++ (wsX6_change_r3 ++ (wsX6_change_r4 ++ (wsX6_change_r5 ++ (wsX6_change_r6 ++ wsX6_change_r7)))))) ++ wsX60 ++ wsJx4a65c0 ++ wsX00 ++ wsX20 ++ (vx_atS RX6 192 "java/lang/IndexOutOfBoundsException" ["java/lang/RuntimeException", "java/lang/Exception"]).filter goodWord ++ (vx_atS RX6 184 "java/lang/IllegalArgumentException" ["java/lang/RuntimeException", "java/lang/Exception"]).filter goodWord ++ (vx_atS RX6 58 "java/lang/IllegalStateException" ["java/lang/RuntimeException", "java/lang/Exception"]).filter goodWord)
def wsX6_add_r1 : List Cond := [Cond.fieldLink RX6 97 "Backdater$Kind" "ADD" "LBackdater$Kind;", Cond.methodLink RX6 84 yX6_policyNumbered, Cond.instanceMethod yX6_policyNumbered, Cond.selects RX6 yX6_policyNumbered yX6_policyNumbered, Cond.initialized RX6, Cond.code yX6_policyNumbered cX6_policyNumbered 2 (some (.object "Backdater$Policy")), Cond.classLink RX6 188 "java/lang/IndexOutOfBoundsException", Cond.initialized "java/lang/IndexOutOfBoundsException", Cond.fieldLink RX6 10 "Backdater" "policies" "Ljava/util/List;", Cond.classLink RX6 61 "Backdater$Policy", Cond.methodLink RX6 48 ⟨"java/util/List", "size", "()I"⟩, Cond.selects RJx4a65c ⟨"java/util/List", "size", "()I"⟩ yJx4a65c_size_8abf5, Cond.instanceMethod yJx4a65c_size_8abf5, Cond.initialized RJx4a65c, Cond.code yJx4a65c_size_8abf5 cJx4a65c_size_8abf5 1 (some .int), Cond.fieldLink RJx4a65c 48 "java/util/ArrayList" "size" "I", Cond.methodLink RX6 127 ⟨"java/util/List", "get", "(I)Ljava/lang/Object;"⟩, Cond.selects RJx4a65c ⟨"java/util/List", "get", "(I)Ljava/lang/Object;"⟩ yJx4a65c_get_915e3, Cond.instanceMethod yJx4a65c_get_915e3, Cond.code yJx4a65c_get_915e3 cJx4a65c_get_915e3 2 (some (.object "java/lang/Object")), Cond.methodLink RJx4a65c 118 yJ15_checkIndex_7cf53, Cond.static yJ15_checkIndex_7cf53, Cond.initialized RJ15, Cond.code yJ15_checkIndex_7cf53 cJ15_checkIndex_7cf53 2 (some .int)]
def wsX6_add_r2 : List Cond := [Cond.methodLink RJ15 105 yJ3_checkIndex_8e157, Cond.static yJ3_checkIndex_8e157, Cond.initialized RJ3, Cond.code yJ3_checkIndex_8e157 cJ3_checkIndex_8e157 3 (some .int), Cond.methodLink RJx4a65c 123 yJx4a65c_elementData_915e3, Cond.instanceMethod yJx4a65c_elementData_915e3, Cond.selects RJx4a65c yJx4a65c_elementData_915e3 yJx4a65c_elementData_915e3, Cond.code yJx4a65c_elementData_915e3 cJx4a65c_elementData_915e3 2 (some (.object "java/lang/Object")), Cond.fieldLink RJx4a65c 9 "java/util/ArrayList" "elementData" "[Ljava/lang/Object;", Cond.methodLink RX6 70 yX6_demandField, Cond.static yX6_demandField, Cond.code yX6_demandField cX6_demandField 1 none, Cond.methodLink RX6 185 yX6_isField, Cond.static yX6_isField, Cond.code yX6_isField cX6_isField 1 (some .boolean), Cond.methodLink RX6 73 yX6_demandDay, Cond.static yX6_demandDay, Cond.code yX6_demandDay cX6_demandDay 1 none, Cond.methodLink RX6 44 yX6_demandWithin, Cond.static yX6_demandWithin, Cond.code yX6_demandWithin cX6_demandWithin 3 none, Cond.classLink RX6 180 "java/lang/IllegalArgumentException", Cond.initialized "java/lang/IllegalArgumentException", Cond.methodLink RX6 94 yX6_tell]
def wsX6_add_r3 : List Cond := [Cond.instanceMethod yX6_tell, Cond.selects RX6 yX6_tell yX6_tell, Cond.code yX6_tell cX6_tell 7 (some .int), Cond.classLink RX6 54 "java/lang/IllegalStateException", Cond.initialized "java/lang/IllegalStateException", Cond.fieldLink RX6 16 "Backdater" "told" "Ljava/util/List;", Cond.classLink RX6 111 RX0, Cond.instantiable RX0 8, Cond.initialized RX0, Cond.fieldLink RX6 40 "Backdater" "currentDay" "I", Cond.fieldLink RX6 131 "Backdater$Change" "number" "I", Cond.methodLink RX6 199 yX0_init, Cond.instanceMethod yX0_init, Cond.code yX0_init cX0_init 8 none, Cond.methodLink RX0 3 objectInit, Cond.instanceMethod objectInit, Cond.code objectInit ⟨#[0xb1]⟩ 1 none, Cond.fieldLink RX0 9 "Backdater$Change" "takenBackOn" "I", Cond.fieldLink RX0 15 "Backdater$Change" "number" "I", Cond.fieldLink RX0 18 "Backdater$Change" "policy" "LBackdater$Policy;", Cond.fieldLink RX0 22 "Backdater$Change" "kind" "LBackdater$Kind;", Cond.fieldLink RX0 26 "Backdater$Change" "field" "I", Cond.fieldLink RX0 29 "Backdater$Change" "from" "I", Cond.fieldLink RX0 32 "Backdater$Change" "amount" "I"]
def wsX6_add_r4 : List Cond := [Cond.fieldLink RX0 35 "Backdater$Change" "toldOn" "I", Cond.methodLink RX6 66 ⟨"java/util/List", "add", "(Ljava/lang/Object;)Z"⟩, Cond.selects RJx4a65c ⟨"java/util/List", "add", "(Ljava/lang/Object;)Z"⟩ yJx4a65c_add_9ea2d, Cond.instanceMethod yJx4a65c_add_9ea2d, Cond.code yJx4a65c_add_9ea2d cJx4a65c_add_9ea2d 2 (some .boolean), Cond.fieldLink RJx4a65c 63 "java/util/ArrayList" "modCount" "I", Cond.sameField "java/util/ArrayList" "java/util/AbstractList" "modCount" "I", Cond.methodLink RJx4a65c 131 yJx4a65c_add_72be8, Cond.instanceMethod yJx4a65c_add_72be8, Cond.selects RJx4a65c yJx4a65c_add_72be8 yJx4a65c_add_72be8, Cond.code yJx4a65c_add_72be8 cJx4a65c_add_72be8 4 none, Cond.methodLink RJx4a65c 129 yJx4a65c_grow_d5877, Cond.instanceMethod yJx4a65c_grow_d5877, Cond.selects RJx4a65c yJx4a65c_grow_d5877 yJx4a65c_grow_d5877, Cond.code yJx4a65c_grow_d5877 cJx4a65c_grow_d5877 1 (some (.array (.object "java/lang/Object"))), Cond.methodLink RJx4a65c 69 yJx4a65c_grow_92f84, Cond.instanceMethod yJx4a65c_grow_92f84, Cond.selects RJx4a65c yJx4a65c_grow_92f84 yJx4a65c_grow_92f84, Cond.code yJx4a65c_grow_92f84 cJx4a65c_grow_92f84 4 (some (.array (.object "java/lang/Object"))), Cond.fieldLink RJx4a65c 39 "java/util/ArrayList" "DEFAULTCAPACITY_EMPTY_ELEMENTDATA" "[Ljava/lang/Object;", Cond.methodLink RJx4a65c 79 Lib.Math.max.name, Cond.static Lib.Math.max.name, Cond.initialized "java/lang/Math", Cond.code Lib.Math.max.name Lib.Math.max.code 2 (some .int)]
def wsX6_add_r5 : List Cond := [Cond.classLink RJx4a65c 7 "java/lang/Object", Cond.methodLink RJx4a65c 73 yJ8_newLength_cabcc, Cond.static yJ8_newLength_cabcc, Cond.initialized RJ8, Cond.code yJ8_newLength_cabcc cJ8_newLength_cabcc 4 (some .int), Cond.methodLink RJ8 194 Lib.Math.max.name, Cond.constant RJ8 200 (2147483639), Cond.methodLink RJ8 201 yJ8_hugeLength_7cf53, Cond.static yJ8_hugeLength_7cf53, Cond.code yJ8_hugeLength_7cf53 cJ8_hugeLength_7cf53 3 (some .int), Cond.methodLink RJx4a65c 66 yJ7_copyOf_1904c, Cond.static yJ7_copyOf_1904c, Cond.initialized RJ7, Cond.code yJ7_copyOf_1904c cJ7_copyOf_1904c 2 (some (.array (.object "java/lang/Object"))), Cond.methodLink RJ7 86 ⟨"java/lang/Object", "getClass", "()Ljava/lang/Class;"⟩, Cond.selects "[Ljava/lang/Object;" ⟨"java/lang/Object", "getClass", "()Ljava/lang/Class;"⟩ ⟨"java/lang/Object", "getClass", "()Ljava/lang/Class;"⟩, Cond.instanceMethod ⟨"java/lang/Object", "getClass", "()Ljava/lang/Class;"⟩, Cond.native ⟨"java/lang/Object", "getClass", "()Ljava/lang/Class;"⟩, Cond.methodLink RJ7 300 yJ7_copyOf_6403c, Cond.static yJ7_copyOf_6403c, Cond.code yJ7_copyOf_6403c cJ7_copyOf_6403c 4 (some (.array (.object "java/lang/Object"))), Cond.classLink RJ7 110 "[Ljava/lang/Object;", Cond.classLink RJ7 2 "java/lang/Object", Cond.methodLink RJ7 304 Lib.Math.min.name]
def wsX6_add_r6 : List Cond := [Cond.static Lib.Math.min.name, Cond.code Lib.Math.min.name Lib.Math.min.code 2 (some .int), Cond.methodLink RJ7 150 arraycopyName, Cond.native arraycopyName, Cond.static arraycopyName, Cond.initialized "java/lang/System", Cond.methodLink RX6 202 yX2_putInOrder, Cond.instanceMethod yX2_putInOrder, Cond.selects RX2 yX2_putInOrder yX2_putInOrder, Cond.initialized RX2, Cond.code yX2_putInOrder cX2_putInOrder 3 none, Cond.fieldLink RX2 10 "Backdater$Policy" "inOrder" "Ljava/util/List;", Cond.classLink RX2 33 "Backdater$Change", Cond.fieldLink RX2 35 "Backdater$Change" "from" "I", Cond.methodLink RX2 23 ⟨"java/util/List", "size", "()I"⟩, Cond.methodLink RX2 29 ⟨"java/util/List", "get", "(I)Ljava/lang/Object;"⟩, Cond.methodLink RX2 38 ⟨"java/util/List", "add", "(ILjava/lang/Object;)V"⟩, Cond.selects RJx4a65c ⟨"java/util/List", "add", "(ILjava/lang/Object;)V"⟩ yJx4a65c_add_7a177, Cond.instanceMethod yJx4a65c_add_7a177, Cond.code yJx4a65c_add_7a177 cJx4a65c_add_7a177 5 none, Cond.methodLink RJx4a65c 112 arraycopyName, Cond.methodLink RJx4a65c 135 yJx4a65c_rangeCheckForAdd_d00df, Cond.instanceMethod yJx4a65c_rangeCheckForAdd_d00df, Cond.selects RJx4a65c yJx4a65c_rangeCheckForAdd_d00df yJx4a65c_rangeCheckForAdd_d00df]
def wsX6_add_r7 : List Cond := [Cond.code yJx4a65c_rangeCheckForAdd_d00df cJx4a65c_rangeCheckForAdd_d00df 2 none]
def wsX6_add : List Cond := .code yX6_add cX6_add 6 (some .int) :: ((wsX6_add_r1 ++ (wsX6_add_r2 ++ (wsX6_add_r3 ++ (wsX6_add_r4 ++ (wsX6_add_r5 ++ (wsX6_add_r6 ++ wsX6_add_r7)))))) ++ wsX60 ++ wsJx4a65c0 ++ wsX00 ++ wsX20 ++ (vx_atS RX6 192 "java/lang/IndexOutOfBoundsException" ["java/lang/RuntimeException", "java/lang/Exception"]).filter goodWord ++ (vx_atS RX6 184 "java/lang/IllegalArgumentException" ["java/lang/RuntimeException", "java/lang/Exception"]).filter goodWord ++ (vx_atS RX6 58 "java/lang/IllegalStateException" ["java/lang/RuntimeException", "java/lang/Exception"]).filter goodWord)
def wsX6_cancel_r1 : List Cond := [Cond.fieldLink RX6 100 "Backdater$Kind" "CANCEL" "LBackdater$Kind;", Cond.methodLink RX6 84 yX6_policyNumbered, Cond.instanceMethod yX6_policyNumbered, Cond.selects RX6 yX6_policyNumbered yX6_policyNumbered, Cond.initialized RX6, Cond.code yX6_policyNumbered cX6_policyNumbered 2 (some (.object "Backdater$Policy")), Cond.classLink RX6 188 "java/lang/IndexOutOfBoundsException", Cond.initialized "java/lang/IndexOutOfBoundsException", Cond.fieldLink RX6 10 "Backdater" "policies" "Ljava/util/List;", Cond.classLink RX6 61 "Backdater$Policy", Cond.methodLink RX6 48 ⟨"java/util/List", "size", "()I"⟩, Cond.selects RJx4a65c ⟨"java/util/List", "size", "()I"⟩ yJx4a65c_size_8abf5, Cond.instanceMethod yJx4a65c_size_8abf5, Cond.initialized RJx4a65c, Cond.code yJx4a65c_size_8abf5 cJx4a65c_size_8abf5 1 (some .int), Cond.fieldLink RJx4a65c 48 "java/util/ArrayList" "size" "I", Cond.methodLink RX6 127 ⟨"java/util/List", "get", "(I)Ljava/lang/Object;"⟩, Cond.selects RJx4a65c ⟨"java/util/List", "get", "(I)Ljava/lang/Object;"⟩ yJx4a65c_get_915e3, Cond.instanceMethod yJx4a65c_get_915e3, Cond.code yJx4a65c_get_915e3 cJx4a65c_get_915e3 2 (some (.object "java/lang/Object")), Cond.methodLink RJx4a65c 118 yJ15_checkIndex_7cf53, Cond.static yJ15_checkIndex_7cf53, Cond.initialized RJ15, Cond.code yJ15_checkIndex_7cf53 cJ15_checkIndex_7cf53 2 (some .int)]
def wsX6_cancel_r2 : List Cond := [Cond.methodLink RJ15 105 yJ3_checkIndex_8e157, Cond.static yJ3_checkIndex_8e157, Cond.initialized RJ3, Cond.code yJ3_checkIndex_8e157 cJ3_checkIndex_8e157 3 (some .int), Cond.methodLink RJx4a65c 123 yJx4a65c_elementData_915e3, Cond.instanceMethod yJx4a65c_elementData_915e3, Cond.selects RJx4a65c yJx4a65c_elementData_915e3 yJx4a65c_elementData_915e3, Cond.code yJx4a65c_elementData_915e3 cJx4a65c_elementData_915e3 2 (some (.object "java/lang/Object")), Cond.fieldLink RJx4a65c 9 "java/util/ArrayList" "elementData" "[Ljava/lang/Object;", Cond.methodLink RX6 73 yX6_demandDay, Cond.static yX6_demandDay, Cond.code yX6_demandDay cX6_demandDay 1 none, Cond.methodLink RX6 44 yX6_demandWithin, Cond.static yX6_demandWithin, Cond.code yX6_demandWithin cX6_demandWithin 3 none, Cond.classLink RX6 180 "java/lang/IllegalArgumentException", Cond.initialized "java/lang/IllegalArgumentException", Cond.methodLink RX6 94 yX6_tell, Cond.instanceMethod yX6_tell, Cond.selects RX6 yX6_tell yX6_tell, Cond.code yX6_tell cX6_tell 7 (some .int), Cond.classLink RX6 54 "java/lang/IllegalStateException", Cond.initialized "java/lang/IllegalStateException", Cond.fieldLink RX6 16 "Backdater" "told" "Ljava/util/List;"]
def wsX6_cancel_r3 : List Cond := [Cond.classLink RX6 111 RX0, Cond.instantiable RX0 8, Cond.initialized RX0, Cond.fieldLink RX6 40 "Backdater" "currentDay" "I", Cond.fieldLink RX6 131 "Backdater$Change" "number" "I", Cond.methodLink RX6 199 yX0_init, Cond.instanceMethod yX0_init, Cond.code yX0_init cX0_init 8 none, Cond.methodLink RX0 3 objectInit, Cond.instanceMethod objectInit, Cond.code objectInit ⟨#[0xb1]⟩ 1 none, Cond.fieldLink RX0 9 "Backdater$Change" "takenBackOn" "I", Cond.fieldLink RX0 15 "Backdater$Change" "number" "I", Cond.fieldLink RX0 18 "Backdater$Change" "policy" "LBackdater$Policy;", Cond.fieldLink RX0 22 "Backdater$Change" "kind" "LBackdater$Kind;", Cond.fieldLink RX0 26 "Backdater$Change" "field" "I", Cond.fieldLink RX0 29 "Backdater$Change" "from" "I", Cond.fieldLink RX0 32 "Backdater$Change" "amount" "I", Cond.fieldLink RX0 35 "Backdater$Change" "toldOn" "I", Cond.methodLink RX6 66 ⟨"java/util/List", "add", "(Ljava/lang/Object;)Z"⟩, Cond.selects RJx4a65c ⟨"java/util/List", "add", "(Ljava/lang/Object;)Z"⟩ yJx4a65c_add_9ea2d, Cond.instanceMethod yJx4a65c_add_9ea2d, Cond.code yJx4a65c_add_9ea2d cJx4a65c_add_9ea2d 2 (some .boolean), Cond.fieldLink RJx4a65c 63 "java/util/ArrayList" "modCount" "I"]
def wsX6_cancel_r4 : List Cond := [Cond.sameField "java/util/ArrayList" "java/util/AbstractList" "modCount" "I", Cond.methodLink RJx4a65c 131 yJx4a65c_add_72be8, Cond.instanceMethod yJx4a65c_add_72be8, Cond.selects RJx4a65c yJx4a65c_add_72be8 yJx4a65c_add_72be8, Cond.code yJx4a65c_add_72be8 cJx4a65c_add_72be8 4 none, Cond.methodLink RJx4a65c 129 yJx4a65c_grow_d5877, Cond.instanceMethod yJx4a65c_grow_d5877, Cond.selects RJx4a65c yJx4a65c_grow_d5877 yJx4a65c_grow_d5877, Cond.code yJx4a65c_grow_d5877 cJx4a65c_grow_d5877 1 (some (.array (.object "java/lang/Object"))), Cond.methodLink RJx4a65c 69 yJx4a65c_grow_92f84, Cond.instanceMethod yJx4a65c_grow_92f84, Cond.selects RJx4a65c yJx4a65c_grow_92f84 yJx4a65c_grow_92f84, Cond.code yJx4a65c_grow_92f84 cJx4a65c_grow_92f84 4 (some (.array (.object "java/lang/Object"))), Cond.fieldLink RJx4a65c 39 "java/util/ArrayList" "DEFAULTCAPACITY_EMPTY_ELEMENTDATA" "[Ljava/lang/Object;", Cond.methodLink RJx4a65c 79 Lib.Math.max.name, Cond.static Lib.Math.max.name, Cond.initialized "java/lang/Math", Cond.code Lib.Math.max.name Lib.Math.max.code 2 (some .int), Cond.classLink RJx4a65c 7 "java/lang/Object", Cond.methodLink RJx4a65c 73 yJ8_newLength_cabcc, Cond.static yJ8_newLength_cabcc, Cond.initialized RJ8, Cond.code yJ8_newLength_cabcc cJ8_newLength_cabcc 4 (some .int), Cond.methodLink RJ8 194 Lib.Math.max.name]
def wsX6_cancel_r5 : List Cond := [Cond.constant RJ8 200 (2147483639), Cond.methodLink RJ8 201 yJ8_hugeLength_7cf53, Cond.static yJ8_hugeLength_7cf53, Cond.code yJ8_hugeLength_7cf53 cJ8_hugeLength_7cf53 3 (some .int), Cond.methodLink RJx4a65c 66 yJ7_copyOf_1904c, Cond.static yJ7_copyOf_1904c, Cond.initialized RJ7, Cond.code yJ7_copyOf_1904c cJ7_copyOf_1904c 2 (some (.array (.object "java/lang/Object"))), Cond.methodLink RJ7 86 ⟨"java/lang/Object", "getClass", "()Ljava/lang/Class;"⟩, Cond.selects "[Ljava/lang/Object;" ⟨"java/lang/Object", "getClass", "()Ljava/lang/Class;"⟩ ⟨"java/lang/Object", "getClass", "()Ljava/lang/Class;"⟩, Cond.instanceMethod ⟨"java/lang/Object", "getClass", "()Ljava/lang/Class;"⟩, Cond.native ⟨"java/lang/Object", "getClass", "()Ljava/lang/Class;"⟩, Cond.methodLink RJ7 300 yJ7_copyOf_6403c, Cond.static yJ7_copyOf_6403c, Cond.code yJ7_copyOf_6403c cJ7_copyOf_6403c 4 (some (.array (.object "java/lang/Object"))), Cond.classLink RJ7 110 "[Ljava/lang/Object;", Cond.classLink RJ7 2 "java/lang/Object", Cond.methodLink RJ7 304 Lib.Math.min.name, Cond.static Lib.Math.min.name, Cond.code Lib.Math.min.name Lib.Math.min.code 2 (some .int), Cond.methodLink RJ7 150 arraycopyName, Cond.native arraycopyName, Cond.static arraycopyName, Cond.initialized "java/lang/System"]
def wsX6_cancel_r6 : List Cond := [Cond.methodLink RX6 202 yX2_putInOrder, Cond.instanceMethod yX2_putInOrder, Cond.selects RX2 yX2_putInOrder yX2_putInOrder, Cond.initialized RX2, Cond.code yX2_putInOrder cX2_putInOrder 3 none, Cond.fieldLink RX2 10 "Backdater$Policy" "inOrder" "Ljava/util/List;", Cond.classLink RX2 33 "Backdater$Change", Cond.fieldLink RX2 35 "Backdater$Change" "from" "I", Cond.methodLink RX2 23 ⟨"java/util/List", "size", "()I"⟩, Cond.methodLink RX2 29 ⟨"java/util/List", "get", "(I)Ljava/lang/Object;"⟩, Cond.methodLink RX2 38 ⟨"java/util/List", "add", "(ILjava/lang/Object;)V"⟩, Cond.selects RJx4a65c ⟨"java/util/List", "add", "(ILjava/lang/Object;)V"⟩ yJx4a65c_add_7a177, Cond.instanceMethod yJx4a65c_add_7a177, Cond.code yJx4a65c_add_7a177 cJx4a65c_add_7a177 5 none, Cond.methodLink RJx4a65c 112 arraycopyName, Cond.methodLink RJx4a65c 135 yJx4a65c_rangeCheckForAdd_d00df, Cond.instanceMethod yJx4a65c_rangeCheckForAdd_d00df, Cond.selects RJx4a65c yJx4a65c_rangeCheckForAdd_d00df yJx4a65c_rangeCheckForAdd_d00df, Cond.code yJx4a65c_rangeCheckForAdd_d00df cJx4a65c_rangeCheckForAdd_d00df 2 none]
def wsX6_cancel : List Cond := .code yX6_cancel cX6_cancel 4 (some .int) :: ((wsX6_cancel_r1 ++ (wsX6_cancel_r2 ++ (wsX6_cancel_r3 ++ (wsX6_cancel_r4 ++ (wsX6_cancel_r5 ++ wsX6_cancel_r6))))) ++ wsX60 ++ wsJx4a65c0 ++ wsX00 ++ wsX20 ++ (vx_atS RX6 192 "java/lang/IndexOutOfBoundsException" ["java/lang/RuntimeException", "java/lang/Exception"]).filter goodWord ++ (vx_atS RX6 184 "java/lang/IllegalArgumentException" ["java/lang/RuntimeException", "java/lang/Exception"]).filter goodWord ++ (vx_atS RX6 58 "java/lang/IllegalStateException" ["java/lang/RuntimeException", "java/lang/Exception"]).filter goodWord)
def wsX6_reinstate_r1 : List Cond := [Cond.fieldLink RX6 103 "Backdater$Kind" "REINSTATE" "LBackdater$Kind;", Cond.methodLink RX6 84 yX6_policyNumbered, Cond.instanceMethod yX6_policyNumbered, Cond.selects RX6 yX6_policyNumbered yX6_policyNumbered, Cond.initialized RX6, Cond.code yX6_policyNumbered cX6_policyNumbered 2 (some (.object "Backdater$Policy")), Cond.classLink RX6 188 "java/lang/IndexOutOfBoundsException", Cond.initialized "java/lang/IndexOutOfBoundsException", Cond.fieldLink RX6 10 "Backdater" "policies" "Ljava/util/List;", Cond.classLink RX6 61 "Backdater$Policy", Cond.methodLink RX6 48 ⟨"java/util/List", "size", "()I"⟩, Cond.selects RJx4a65c ⟨"java/util/List", "size", "()I"⟩ yJx4a65c_size_8abf5, Cond.instanceMethod yJx4a65c_size_8abf5, Cond.initialized RJx4a65c, Cond.code yJx4a65c_size_8abf5 cJx4a65c_size_8abf5 1 (some .int), Cond.fieldLink RJx4a65c 48 "java/util/ArrayList" "size" "I", Cond.methodLink RX6 127 ⟨"java/util/List", "get", "(I)Ljava/lang/Object;"⟩, Cond.selects RJx4a65c ⟨"java/util/List", "get", "(I)Ljava/lang/Object;"⟩ yJx4a65c_get_915e3, Cond.instanceMethod yJx4a65c_get_915e3, Cond.code yJx4a65c_get_915e3 cJx4a65c_get_915e3 2 (some (.object "java/lang/Object")), Cond.methodLink RJx4a65c 118 yJ15_checkIndex_7cf53, Cond.static yJ15_checkIndex_7cf53, Cond.initialized RJ15, Cond.code yJ15_checkIndex_7cf53 cJ15_checkIndex_7cf53 2 (some .int)]
def wsX6_reinstate_r2 : List Cond := [Cond.methodLink RJ15 105 yJ3_checkIndex_8e157, Cond.static yJ3_checkIndex_8e157, Cond.initialized RJ3, Cond.code yJ3_checkIndex_8e157 cJ3_checkIndex_8e157 3 (some .int), Cond.methodLink RJx4a65c 123 yJx4a65c_elementData_915e3, Cond.instanceMethod yJx4a65c_elementData_915e3, Cond.selects RJx4a65c yJx4a65c_elementData_915e3 yJx4a65c_elementData_915e3, Cond.code yJx4a65c_elementData_915e3 cJx4a65c_elementData_915e3 2 (some (.object "java/lang/Object")), Cond.fieldLink RJx4a65c 9 "java/util/ArrayList" "elementData" "[Ljava/lang/Object;", Cond.methodLink RX6 73 yX6_demandDay, Cond.static yX6_demandDay, Cond.code yX6_demandDay cX6_demandDay 1 none, Cond.methodLink RX6 44 yX6_demandWithin, Cond.static yX6_demandWithin, Cond.code yX6_demandWithin cX6_demandWithin 3 none, Cond.classLink RX6 180 "java/lang/IllegalArgumentException", Cond.initialized "java/lang/IllegalArgumentException", Cond.methodLink RX6 94 yX6_tell, Cond.instanceMethod yX6_tell, Cond.selects RX6 yX6_tell yX6_tell, Cond.code yX6_tell cX6_tell 7 (some .int), Cond.classLink RX6 54 "java/lang/IllegalStateException", Cond.initialized "java/lang/IllegalStateException", Cond.fieldLink RX6 16 "Backdater" "told" "Ljava/util/List;"]
def wsX6_reinstate_r3 : List Cond := [Cond.classLink RX6 111 RX0, Cond.instantiable RX0 8, Cond.initialized RX0, Cond.fieldLink RX6 40 "Backdater" "currentDay" "I", Cond.fieldLink RX6 131 "Backdater$Change" "number" "I", Cond.methodLink RX6 199 yX0_init, Cond.instanceMethod yX0_init, Cond.code yX0_init cX0_init 8 none, Cond.methodLink RX0 3 objectInit, Cond.instanceMethod objectInit, Cond.code objectInit ⟨#[0xb1]⟩ 1 none, Cond.fieldLink RX0 9 "Backdater$Change" "takenBackOn" "I", Cond.fieldLink RX0 15 "Backdater$Change" "number" "I", Cond.fieldLink RX0 18 "Backdater$Change" "policy" "LBackdater$Policy;", Cond.fieldLink RX0 22 "Backdater$Change" "kind" "LBackdater$Kind;", Cond.fieldLink RX0 26 "Backdater$Change" "field" "I", Cond.fieldLink RX0 29 "Backdater$Change" "from" "I", Cond.fieldLink RX0 32 "Backdater$Change" "amount" "I", Cond.fieldLink RX0 35 "Backdater$Change" "toldOn" "I", Cond.methodLink RX6 66 ⟨"java/util/List", "add", "(Ljava/lang/Object;)Z"⟩, Cond.selects RJx4a65c ⟨"java/util/List", "add", "(Ljava/lang/Object;)Z"⟩ yJx4a65c_add_9ea2d, Cond.instanceMethod yJx4a65c_add_9ea2d, Cond.code yJx4a65c_add_9ea2d cJx4a65c_add_9ea2d 2 (some .boolean), Cond.fieldLink RJx4a65c 63 "java/util/ArrayList" "modCount" "I"]
def wsX6_reinstate_r4 : List Cond := [Cond.sameField "java/util/ArrayList" "java/util/AbstractList" "modCount" "I", Cond.methodLink RJx4a65c 131 yJx4a65c_add_72be8, Cond.instanceMethod yJx4a65c_add_72be8, Cond.selects RJx4a65c yJx4a65c_add_72be8 yJx4a65c_add_72be8, Cond.code yJx4a65c_add_72be8 cJx4a65c_add_72be8 4 none, Cond.methodLink RJx4a65c 129 yJx4a65c_grow_d5877, Cond.instanceMethod yJx4a65c_grow_d5877, Cond.selects RJx4a65c yJx4a65c_grow_d5877 yJx4a65c_grow_d5877, Cond.code yJx4a65c_grow_d5877 cJx4a65c_grow_d5877 1 (some (.array (.object "java/lang/Object"))), Cond.methodLink RJx4a65c 69 yJx4a65c_grow_92f84, Cond.instanceMethod yJx4a65c_grow_92f84, Cond.selects RJx4a65c yJx4a65c_grow_92f84 yJx4a65c_grow_92f84, Cond.code yJx4a65c_grow_92f84 cJx4a65c_grow_92f84 4 (some (.array (.object "java/lang/Object"))), Cond.fieldLink RJx4a65c 39 "java/util/ArrayList" "DEFAULTCAPACITY_EMPTY_ELEMENTDATA" "[Ljava/lang/Object;", Cond.methodLink RJx4a65c 79 Lib.Math.max.name, Cond.static Lib.Math.max.name, Cond.initialized "java/lang/Math", Cond.code Lib.Math.max.name Lib.Math.max.code 2 (some .int), Cond.classLink RJx4a65c 7 "java/lang/Object", Cond.methodLink RJx4a65c 73 yJ8_newLength_cabcc, Cond.static yJ8_newLength_cabcc, Cond.initialized RJ8, Cond.code yJ8_newLength_cabcc cJ8_newLength_cabcc 4 (some .int), Cond.methodLink RJ8 194 Lib.Math.max.name]
def wsX6_reinstate_r5 : List Cond := [Cond.constant RJ8 200 (2147483639), Cond.methodLink RJ8 201 yJ8_hugeLength_7cf53, Cond.static yJ8_hugeLength_7cf53, Cond.code yJ8_hugeLength_7cf53 cJ8_hugeLength_7cf53 3 (some .int), Cond.methodLink RJx4a65c 66 yJ7_copyOf_1904c, Cond.static yJ7_copyOf_1904c, Cond.initialized RJ7, Cond.code yJ7_copyOf_1904c cJ7_copyOf_1904c 2 (some (.array (.object "java/lang/Object"))), Cond.methodLink RJ7 86 ⟨"java/lang/Object", "getClass", "()Ljava/lang/Class;"⟩, Cond.selects "[Ljava/lang/Object;" ⟨"java/lang/Object", "getClass", "()Ljava/lang/Class;"⟩ ⟨"java/lang/Object", "getClass", "()Ljava/lang/Class;"⟩, Cond.instanceMethod ⟨"java/lang/Object", "getClass", "()Ljava/lang/Class;"⟩, Cond.native ⟨"java/lang/Object", "getClass", "()Ljava/lang/Class;"⟩, Cond.methodLink RJ7 300 yJ7_copyOf_6403c, Cond.static yJ7_copyOf_6403c, Cond.code yJ7_copyOf_6403c cJ7_copyOf_6403c 4 (some (.array (.object "java/lang/Object"))), Cond.classLink RJ7 110 "[Ljava/lang/Object;", Cond.classLink RJ7 2 "java/lang/Object", Cond.methodLink RJ7 304 Lib.Math.min.name, Cond.static Lib.Math.min.name, Cond.code Lib.Math.min.name Lib.Math.min.code 2 (some .int), Cond.methodLink RJ7 150 arraycopyName, Cond.native arraycopyName, Cond.static arraycopyName, Cond.initialized "java/lang/System"]
def wsX6_reinstate_r6 : List Cond := [Cond.methodLink RX6 202 yX2_putInOrder, Cond.instanceMethod yX2_putInOrder, Cond.selects RX2 yX2_putInOrder yX2_putInOrder, Cond.initialized RX2, Cond.code yX2_putInOrder cX2_putInOrder 3 none, Cond.fieldLink RX2 10 "Backdater$Policy" "inOrder" "Ljava/util/List;", Cond.classLink RX2 33 "Backdater$Change", Cond.fieldLink RX2 35 "Backdater$Change" "from" "I", Cond.methodLink RX2 23 ⟨"java/util/List", "size", "()I"⟩, Cond.methodLink RX2 29 ⟨"java/util/List", "get", "(I)Ljava/lang/Object;"⟩, Cond.methodLink RX2 38 ⟨"java/util/List", "add", "(ILjava/lang/Object;)V"⟩, Cond.selects RJx4a65c ⟨"java/util/List", "add", "(ILjava/lang/Object;)V"⟩ yJx4a65c_add_7a177, Cond.instanceMethod yJx4a65c_add_7a177, Cond.code yJx4a65c_add_7a177 cJx4a65c_add_7a177 5 none, Cond.methodLink RJx4a65c 112 arraycopyName, Cond.methodLink RJx4a65c 135 yJx4a65c_rangeCheckForAdd_d00df, Cond.instanceMethod yJx4a65c_rangeCheckForAdd_d00df, Cond.selects RJx4a65c yJx4a65c_rangeCheckForAdd_d00df yJx4a65c_rangeCheckForAdd_d00df, Cond.code yJx4a65c_rangeCheckForAdd_d00df cJx4a65c_rangeCheckForAdd_d00df 2 none]
def wsX6_reinstate : List Cond := .code yX6_reinstate cX6_reinstate 4 (some .int) :: ((wsX6_reinstate_r1 ++ (wsX6_reinstate_r2 ++ (wsX6_reinstate_r3 ++ (wsX6_reinstate_r4 ++ (wsX6_reinstate_r5 ++ wsX6_reinstate_r6))))) ++ wsX60 ++ wsJx4a65c0 ++ wsX00 ++ wsX20 ++ (vx_atS RX6 192 "java/lang/IndexOutOfBoundsException" ["java/lang/RuntimeException", "java/lang/Exception"]).filter goodWord ++ (vx_atS RX6 184 "java/lang/IllegalArgumentException" ["java/lang/RuntimeException", "java/lang/Exception"]).filter goodWord ++ (vx_atS RX6 58 "java/lang/IllegalStateException" ["java/lang/RuntimeException", "java/lang/Exception"]).filter goodWord)
def wsX6_changeNumbered_r1 : List Cond := [Cond.classLink RX6 188 "java/lang/IndexOutOfBoundsException", Cond.initialized "java/lang/IndexOutOfBoundsException", Cond.fieldLink RX6 16 "Backdater" "told" "Ljava/util/List;", Cond.classLink RX6 111 "Backdater$Change", Cond.methodLink RX6 48 ⟨"java/util/List", "size", "()I"⟩, Cond.selects RJx4a65c ⟨"java/util/List", "size", "()I"⟩ yJx4a65c_size_8abf5, Cond.instanceMethod yJx4a65c_size_8abf5, Cond.initialized RJx4a65c, Cond.code yJx4a65c_size_8abf5 cJx4a65c_size_8abf5 1 (some .int), Cond.fieldLink RJx4a65c 48 "java/util/ArrayList" "size" "I", Cond.methodLink RX6 127 ⟨"java/util/List", "get", "(I)Ljava/lang/Object;"⟩, Cond.selects RJx4a65c ⟨"java/util/List", "get", "(I)Ljava/lang/Object;"⟩ yJx4a65c_get_915e3, Cond.instanceMethod yJx4a65c_get_915e3, Cond.code yJx4a65c_get_915e3 cJx4a65c_get_915e3 2 (some (.object "java/lang/Object")), Cond.methodLink RJx4a65c 118 yJ15_checkIndex_7cf53, Cond.static yJ15_checkIndex_7cf53, Cond.initialized RJ15, Cond.code yJ15_checkIndex_7cf53 cJ15_checkIndex_7cf53 2 (some .int), Cond.methodLink RJ15 105 yJ3_checkIndex_8e157, Cond.static yJ3_checkIndex_8e157, Cond.initialized RJ3, Cond.code yJ3_checkIndex_8e157 cJ3_checkIndex_8e157 3 (some .int), Cond.methodLink RJx4a65c 123 yJx4a65c_elementData_915e3, Cond.instanceMethod yJx4a65c_elementData_915e3]
def wsX6_changeNumbered_r2 : List Cond := [Cond.selects RJx4a65c yJx4a65c_elementData_915e3 yJx4a65c_elementData_915e3, Cond.code yJx4a65c_elementData_915e3 cJx4a65c_elementData_915e3 2 (some (.object "java/lang/Object")), Cond.fieldLink RJx4a65c 9 "java/util/ArrayList" "elementData" "[Ljava/lang/Object;"]
def wsX6_changeNumbered : List Cond := .code yX6_changeNumbered cX6_changeNumbered 2 (some (.object "Backdater$Change")) :: ((wsX6_changeNumbered_r1 ++ wsX6_changeNumbered_r2) ++ wsX60 ++ wsJx4a65c0 ++ (vx_atS RX6 192 "java/lang/IndexOutOfBoundsException" ["java/lang/RuntimeException", "java/lang/Exception"]).filter goodWord)
def wsX6_takeBack_r1 : List Cond := [Cond.classLink RX6 54 "java/lang/IllegalStateException", Cond.initialized "java/lang/IllegalStateException", Cond.fieldLink RX6 110 "Backdater$Change" "takenBackOn" "I", Cond.fieldLink RX6 40 "Backdater" "currentDay" "I", Cond.fieldLink RX6 117 "Backdater$Change" "toldOn" "I", Cond.methodLink RX6 106 yX6_changeNumbered, Cond.instanceMethod yX6_changeNumbered, Cond.selects RX6 yX6_changeNumbered yX6_changeNumbered, Cond.initialized RX6, Cond.code yX6_changeNumbered cX6_changeNumbered 2 (some (.object "Backdater$Change")), Cond.classLink RX6 188 "java/lang/IndexOutOfBoundsException", Cond.initialized "java/lang/IndexOutOfBoundsException", Cond.fieldLink RX6 16 "Backdater" "told" "Ljava/util/List;", Cond.classLink RX6 111 "Backdater$Change", Cond.methodLink RX6 48 ⟨"java/util/List", "size", "()I"⟩, Cond.selects RJx4a65c ⟨"java/util/List", "size", "()I"⟩ yJx4a65c_size_8abf5, Cond.instanceMethod yJx4a65c_size_8abf5, Cond.initialized RJx4a65c, Cond.code yJx4a65c_size_8abf5 cJx4a65c_size_8abf5 1 (some .int), Cond.fieldLink RJx4a65c 48 "java/util/ArrayList" "size" "I", Cond.methodLink RX6 127 ⟨"java/util/List", "get", "(I)Ljava/lang/Object;"⟩, Cond.selects RJx4a65c ⟨"java/util/List", "get", "(I)Ljava/lang/Object;"⟩ yJx4a65c_get_915e3, Cond.instanceMethod yJx4a65c_get_915e3, Cond.code yJx4a65c_get_915e3 cJx4a65c_get_915e3 2 (some (.object "java/lang/Object"))]
def wsX6_takeBack_r2 : List Cond := [Cond.methodLink RJx4a65c 118 yJ15_checkIndex_7cf53, Cond.static yJ15_checkIndex_7cf53, Cond.initialized RJ15, Cond.code yJ15_checkIndex_7cf53 cJ15_checkIndex_7cf53 2 (some .int), Cond.methodLink RJ15 105 yJ3_checkIndex_8e157, Cond.static yJ3_checkIndex_8e157, Cond.initialized RJ3, Cond.code yJ3_checkIndex_8e157 cJ3_checkIndex_8e157 3 (some .int), Cond.methodLink RJx4a65c 123 yJx4a65c_elementData_915e3, Cond.instanceMethod yJx4a65c_elementData_915e3, Cond.selects RJx4a65c yJx4a65c_elementData_915e3 yJx4a65c_elementData_915e3, Cond.code yJx4a65c_elementData_915e3 cJx4a65c_elementData_915e3 2 (some (.object "java/lang/Object")), Cond.fieldLink RJx4a65c 9 "java/util/ArrayList" "elementData" "[Ljava/lang/Object;"]
def wsX6_takeBack : List Cond := .code yX6_takeBack cX6_takeBack 3 (some .int) :: ((wsX6_takeBack_r1 ++ wsX6_takeBack_r2) ++ wsX00 ++ wsX60 ++ wsJx4a65c0 ++ (vx_atS RX6 58 "java/lang/IllegalStateException" ["java/lang/RuntimeException", "java/lang/Exception"]).filter goodWord ++ (vx_atS RX6 192 "java/lang/IndexOutOfBoundsException" ["java/lang/RuntimeException", "java/lang/Exception"]).filter goodWord)
def wsX6_changes : List Cond := .code yX6_changes cX6_changes 1 (some .int) :: ([.fieldLink RX6 16 "Backdater" "told" "Ljava/util/List;", .methodLink RX6 48 ⟨"java/util/List", "size", "()I"⟩, .selects RJx4a65c ⟨"java/util/List", "size", "()I"⟩ yJx4a65c_size_8abf5, .instanceMethod yJx4a65c_size_8abf5, .initialized RJx4a65c, .code yJx4a65c_size_8abf5 cJx4a65c_size_8abf5 1 (some .int), .fieldLink RJx4a65c 48 "java/util/ArrayList" "size" "I"] ++ wsX60 ++ wsJx4a65c0)
def wsX6_laidAnew_r1 : List Cond := [Cond.fieldLink RX6 120 "Backdater$Change" "policy" "LBackdater$Policy;", Cond.fieldLink RX6 124 "Backdater$Policy" "inOrder" "Ljava/util/List;", Cond.classLink RX6 111 "Backdater$Change", Cond.fieldLink RX6 131 "Backdater$Change" "number" "I", Cond.fieldLink RX6 134 "Backdater$Change" "from" "I", Cond.fieldLink RX6 40 "Backdater" "currentDay" "I", Cond.methodLink RX6 106 yX6_changeNumbered, Cond.instanceMethod yX6_changeNumbered, Cond.selects RX6 yX6_changeNumbered yX6_changeNumbered, Cond.initialized RX6, Cond.code yX6_changeNumbered cX6_changeNumbered 2 (some (.object "Backdater$Change")), Cond.classLink RX6 188 "java/lang/IndexOutOfBoundsException", Cond.initialized "java/lang/IndexOutOfBoundsException", Cond.fieldLink RX6 16 "Backdater" "told" "Ljava/util/List;", Cond.methodLink RX6 48 ⟨"java/util/List", "size", "()I"⟩, Cond.selects RJx4a65c ⟨"java/util/List", "size", "()I"⟩ yJx4a65c_size_8abf5, Cond.instanceMethod yJx4a65c_size_8abf5, Cond.initialized RJx4a65c, Cond.code yJx4a65c_size_8abf5 cJx4a65c_size_8abf5 1 (some .int), Cond.fieldLink RJx4a65c 48 "java/util/ArrayList" "size" "I", Cond.methodLink RX6 127 ⟨"java/util/List", "get", "(I)Ljava/lang/Object;"⟩, Cond.selects RJx4a65c ⟨"java/util/List", "get", "(I)Ljava/lang/Object;"⟩ yJx4a65c_get_915e3, Cond.instanceMethod yJx4a65c_get_915e3, Cond.code yJx4a65c_get_915e3 cJx4a65c_get_915e3 2 (some (.object "java/lang/Object"))]
def wsX6_laidAnew_r2 : List Cond := [Cond.methodLink RJx4a65c 118 yJ15_checkIndex_7cf53, Cond.static yJ15_checkIndex_7cf53, Cond.initialized RJ15, Cond.code yJ15_checkIndex_7cf53 cJ15_checkIndex_7cf53 2 (some .int), Cond.methodLink RJ15 105 yJ3_checkIndex_8e157, Cond.static yJ3_checkIndex_8e157, Cond.initialized RJ3, Cond.code yJ3_checkIndex_8e157 cJ3_checkIndex_8e157 3 (some .int), Cond.methodLink RJx4a65c 123 yJx4a65c_elementData_915e3, Cond.instanceMethod yJx4a65c_elementData_915e3, Cond.selects RJx4a65c yJx4a65c_elementData_915e3 yJx4a65c_elementData_915e3, Cond.code yJx4a65c_elementData_915e3 cJx4a65c_elementData_915e3 2 (some (.object "java/lang/Object")), Cond.fieldLink RJx4a65c 9 "java/util/ArrayList" "elementData" "[Ljava/lang/Object;", Cond.methodLink RX6 137 yX0_isKnownOn, Cond.instanceMethod yX0_isKnownOn, Cond.selects RX0 yX0_isKnownOn yX0_isKnownOn, Cond.initialized RX0, Cond.code yX0_isKnownOn cX0_isKnownOn 2 (some .boolean), Cond.fieldLink RX0 35 "Backdater$Change" "toldOn" "I", Cond.fieldLink RX0 9 "Backdater$Change" "takenBackOn" "I"]
def wsX6_laidAnew : List Cond := .code yX6_laidAnew cX6_laidAnew 7 (some .int) :: ((wsX6_laidAnew_r1 ++ wsX6_laidAnew_r2) ++ wsX00 ++ wsX20 ++ wsX60 ++ wsJx4a65c0 ++ (vx_atS RX6 192 "java/lang/IndexOutOfBoundsException" ["java/lang/RuntimeException", "java/lang/Exception"]).filter goodWord)
def wsX6_demandKnown : List Cond := .code yX6_demandKnown cX6_demandKnown 2 none :: ([.fieldLink RX6 40 "Backdater" "currentDay" "I", .methodLink RX6 44 yX6_demandWithin, .static yX6_demandWithin, .initialized RX6, .code yX6_demandWithin cX6_demandWithin 3 none, .classLink RX6 180 "java/lang/IllegalArgumentException", .initialized "java/lang/IllegalArgumentException"] ++ wsX60 ++ (vx_atS RX6 184 "java/lang/IllegalArgumentException" ["java/lang/RuntimeException", "java/lang/Exception"]).filter goodWord)
def wsX6_layInFrom_r1 : List Cond := [Cond.fieldLink RX6 124 "Backdater$Policy" "inOrder" "Ljava/util/List;", Cond.methodLink RX6 213 Lib.Math.max.name, Cond.static Lib.Math.max.name, Cond.initialized "java/lang/Math", Cond.code Lib.Math.max.name Lib.Math.max.code 2 (some .int), Cond.classLink RX6 111 "Backdater$Change", Cond.fieldLink RX6 134 "Backdater$Change" "from" "I", Cond.fieldLink RX6 29 "Backdater" "version" "LBackdater$Version;", Cond.methodLink RX6 48 ⟨"java/util/List", "size", "()I"⟩, Cond.selects RJx4a65c ⟨"java/util/List", "size", "()I"⟩ yJx4a65c_size_8abf5, Cond.instanceMethod yJx4a65c_size_8abf5, Cond.initialized RJx4a65c, Cond.code yJx4a65c_size_8abf5 cJx4a65c_size_8abf5 1 (some .int), Cond.fieldLink RJx4a65c 48 "java/util/ArrayList" "size" "I", Cond.methodLink RX6 127 ⟨"java/util/List", "get", "(I)Ljava/lang/Object;"⟩, Cond.selects RJx4a65c ⟨"java/util/List", "get", "(I)Ljava/lang/Object;"⟩ yJx4a65c_get_915e3, Cond.instanceMethod yJx4a65c_get_915e3, Cond.code yJx4a65c_get_915e3 cJx4a65c_get_915e3 2 (some (.object "java/lang/Object")), Cond.methodLink RJx4a65c 118 yJ15_checkIndex_7cf53, Cond.static yJ15_checkIndex_7cf53, Cond.initialized RJ15, Cond.code yJ15_checkIndex_7cf53 cJ15_checkIndex_7cf53 2 (some .int), Cond.methodLink RJ15 105 yJ3_checkIndex_8e157, Cond.static yJ3_checkIndex_8e157]
def wsX6_layInFrom_r2 : List Cond := [Cond.initialized RJ3, Cond.code yJ3_checkIndex_8e157 cJ3_checkIndex_8e157 3 (some .int), Cond.methodLink RJx4a65c 123 yJx4a65c_elementData_915e3, Cond.instanceMethod yJx4a65c_elementData_915e3, Cond.selects RJx4a65c yJx4a65c_elementData_915e3 yJx4a65c_elementData_915e3, Cond.code yJx4a65c_elementData_915e3 cJx4a65c_elementData_915e3 2 (some (.object "java/lang/Object")), Cond.fieldLink RJx4a65c 9 "java/util/ArrayList" "elementData" "[Ljava/lang/Object;", Cond.methodLink RX6 137 yX0_isKnownOn, Cond.instanceMethod yX0_isKnownOn, Cond.selects RX0 yX0_isKnownOn yX0_isKnownOn, Cond.initialized RX0, Cond.code yX0_isKnownOn cX0_isKnownOn 2 (some .boolean), Cond.fieldLink RX0 35 "Backdater$Change" "toldOn" "I", Cond.fieldLink RX0 9 "Backdater$Change" "takenBackOn" "I", Cond.methodLink RX6 219 yX4_layIn, Cond.instanceMethod yX4_layIn, Cond.selects RX4 yX4_layIn yX4_layIn, Cond.initialized RX4, Cond.code yX4_layIn cX4_layIn 3 none, Cond.fieldLink RX4 25 "Backdater$Change" "kind" "LBackdater$Kind;", Cond.fieldLink RX4 31 "Backdater$Kind" "SET" "LBackdater$Kind;", Cond.fieldLink RX4 36 "Backdater$Change" "field" "I", Cond.fieldLink RX4 40 "Backdater$Change" "amount" "I", Cond.fieldLink RX4 47 "Backdater$Kind" "ADD" "LBackdater$Kind;"]
def wsX6_layInFrom_r3 : List Cond := [Cond.methodLink RX4 54 Lib.Math.max.name, Cond.methodLink RX4 60 Lib.Math.min.name, Cond.static Lib.Math.min.name, Cond.code Lib.Math.min.name Lib.Math.min.code 2 (some .int), Cond.fieldLink RX4 63 "Backdater$Kind" "REINSTATE" "LBackdater$Kind;", Cond.fieldLink RX4 15 "Backdater$Version" "covered" "Z", Cond.methodLink RX4 43 yX4_putValue, Cond.instanceMethod yX4_putValue, Cond.selects RX4 yX4_putValue yX4_putValue, Cond.code yX4_putValue cX4_putValue 3 none, Cond.fieldLink RX4 9 "Backdater$Version" "values" "[I", Cond.static yX6_isField, Cond.initialized RX6, Cond.code yX6_isField cX6_isField 1 (some .boolean), Cond.methodLink RX4 50 yX4_valueOf, Cond.instanceMethod yX4_valueOf, Cond.selects RX4 yX4_valueOf yX4_valueOf, Cond.code yX4_valueOf cX4_valueOf 2 (some .int)]
def wsX6_layInFrom : List Cond := .code yX6_layInFrom cX6_layInFrom 8 (some .int) :: ((wsX6_layInFrom_r1 ++ (wsX6_layInFrom_r2 ++ wsX6_layInFrom_r3)) ++ wsX20 ++ wsX00 ++ wsX60 ++ wsJx4a65c0 ++ wsX40)
def wsX6_layVersion_r1 : List Cond := [Cond.fieldLink RX6 29 "Backdater" "version" "LBackdater$Version;", Cond.methodLink RX6 206 yX4_begin, Cond.instanceMethod yX4_begin, Cond.selects RX4 yX4_begin yX4_begin, Cond.initialized RX4, Cond.code yX4_begin cX4_begin 1 none, Cond.fieldLink RX4 9 "Backdater$Version" "values" "[I", Cond.fieldLink RX4 15 "Backdater$Version" "covered" "Z", Cond.methodLink RX4 19 yJ7_fill_53178, Cond.static yJ7_fill_53178, Cond.initialized RJ7, Cond.code yJ7_fill_53178 cJ7_fill_53178 4 none, Cond.methodLink RX6 209 yX6_layInFrom, Cond.instanceMethod yX6_layInFrom, Cond.selects RX6 yX6_layInFrom yX6_layInFrom, Cond.initialized RX6, Cond.code yX6_layInFrom cX6_layInFrom 8 (some .int), Cond.fieldLink RX6 124 "Backdater$Policy" "inOrder" "Ljava/util/List;", Cond.methodLink RX6 213 Lib.Math.max.name, Cond.static Lib.Math.max.name, Cond.initialized "java/lang/Math", Cond.code Lib.Math.max.name Lib.Math.max.code 2 (some .int), Cond.classLink RX6 111 "Backdater$Change", Cond.fieldLink RX6 134 "Backdater$Change" "from" "I"]
def wsX6_layVersion_r2 : List Cond := [Cond.methodLink RX6 48 ⟨"java/util/List", "size", "()I"⟩, Cond.selects RJx4a65c ⟨"java/util/List", "size", "()I"⟩ yJx4a65c_size_8abf5, Cond.instanceMethod yJx4a65c_size_8abf5, Cond.initialized RJx4a65c, Cond.code yJx4a65c_size_8abf5 cJx4a65c_size_8abf5 1 (some .int), Cond.fieldLink RJx4a65c 48 "java/util/ArrayList" "size" "I", Cond.methodLink RX6 127 ⟨"java/util/List", "get", "(I)Ljava/lang/Object;"⟩, Cond.selects RJx4a65c ⟨"java/util/List", "get", "(I)Ljava/lang/Object;"⟩ yJx4a65c_get_915e3, Cond.instanceMethod yJx4a65c_get_915e3, Cond.code yJx4a65c_get_915e3 cJx4a65c_get_915e3 2 (some (.object "java/lang/Object")), Cond.methodLink RJx4a65c 118 yJ15_checkIndex_7cf53, Cond.static yJ15_checkIndex_7cf53, Cond.initialized RJ15, Cond.code yJ15_checkIndex_7cf53 cJ15_checkIndex_7cf53 2 (some .int), Cond.methodLink RJ15 105 yJ3_checkIndex_8e157, Cond.static yJ3_checkIndex_8e157, Cond.initialized RJ3, Cond.code yJ3_checkIndex_8e157 cJ3_checkIndex_8e157 3 (some .int), Cond.methodLink RJx4a65c 123 yJx4a65c_elementData_915e3, Cond.instanceMethod yJx4a65c_elementData_915e3, Cond.selects RJx4a65c yJx4a65c_elementData_915e3 yJx4a65c_elementData_915e3, Cond.code yJx4a65c_elementData_915e3 cJx4a65c_elementData_915e3 2 (some (.object "java/lang/Object")), Cond.fieldLink RJx4a65c 9 "java/util/ArrayList" "elementData" "[Ljava/lang/Object;", Cond.methodLink RX6 137 yX0_isKnownOn]
def wsX6_layVersion_r3 : List Cond := [Cond.instanceMethod yX0_isKnownOn, Cond.selects RX0 yX0_isKnownOn yX0_isKnownOn, Cond.initialized RX0, Cond.code yX0_isKnownOn cX0_isKnownOn 2 (some .boolean), Cond.fieldLink RX0 35 "Backdater$Change" "toldOn" "I", Cond.fieldLink RX0 9 "Backdater$Change" "takenBackOn" "I", Cond.methodLink RX6 219 yX4_layIn, Cond.instanceMethod yX4_layIn, Cond.selects RX4 yX4_layIn yX4_layIn, Cond.code yX4_layIn cX4_layIn 3 none, Cond.fieldLink RX4 25 "Backdater$Change" "kind" "LBackdater$Kind;", Cond.fieldLink RX4 31 "Backdater$Kind" "SET" "LBackdater$Kind;", Cond.fieldLink RX4 36 "Backdater$Change" "field" "I", Cond.fieldLink RX4 40 "Backdater$Change" "amount" "I", Cond.fieldLink RX4 47 "Backdater$Kind" "ADD" "LBackdater$Kind;", Cond.methodLink RX4 54 Lib.Math.max.name, Cond.methodLink RX4 60 Lib.Math.min.name, Cond.static Lib.Math.min.name, Cond.code Lib.Math.min.name Lib.Math.min.code 2 (some .int), Cond.fieldLink RX4 63 "Backdater$Kind" "REINSTATE" "LBackdater$Kind;", Cond.methodLink RX4 43 yX4_putValue, Cond.instanceMethod yX4_putValue, Cond.selects RX4 yX4_putValue yX4_putValue, Cond.code yX4_putValue cX4_putValue 3 none]
def wsX6_layVersion_r4 : List Cond := [Cond.static yX6_isField, Cond.code yX6_isField cX6_isField 1 (some .boolean), Cond.methodLink RX4 50 yX4_valueOf, Cond.instanceMethod yX4_valueOf, Cond.selects RX4 yX4_valueOf yX4_valueOf, Cond.code yX4_valueOf cX4_valueOf 2 (some .int)]
def wsX6_layVersion : List Cond := .code yX6_layVersion cX6_layVersion 4 none :: ((wsX6_layVersion_r1 ++ (wsX6_layVersion_r2 ++ (wsX6_layVersion_r3 ++ wsX6_layVersion_r4))) ++ wsX60 ++ wsX40 ++ wsX20 ++ wsX00 ++ wsJx4a65c0)
def wsX6_value_r1 : List Cond := [Cond.fieldLink RX6 29 "Backdater" "version" "LBackdater$Version;", Cond.methodLink RX6 84 yX6_policyNumbered, Cond.instanceMethod yX6_policyNumbered, Cond.selects RX6 yX6_policyNumbered yX6_policyNumbered, Cond.initialized RX6, Cond.code yX6_policyNumbered cX6_policyNumbered 2 (some (.object "Backdater$Policy")), Cond.classLink RX6 188 "java/lang/IndexOutOfBoundsException", Cond.initialized "java/lang/IndexOutOfBoundsException", Cond.fieldLink RX6 10 "Backdater" "policies" "Ljava/util/List;", Cond.classLink RX6 61 "Backdater$Policy", Cond.methodLink RX6 48 ⟨"java/util/List", "size", "()I"⟩, Cond.selects RJx4a65c ⟨"java/util/List", "size", "()I"⟩ yJx4a65c_size_8abf5, Cond.instanceMethod yJx4a65c_size_8abf5, Cond.initialized RJx4a65c, Cond.code yJx4a65c_size_8abf5 cJx4a65c_size_8abf5 1 (some .int), Cond.fieldLink RJx4a65c 48 "java/util/ArrayList" "size" "I", Cond.methodLink RX6 127 ⟨"java/util/List", "get", "(I)Ljava/lang/Object;"⟩, Cond.selects RJx4a65c ⟨"java/util/List", "get", "(I)Ljava/lang/Object;"⟩ yJx4a65c_get_915e3, Cond.instanceMethod yJx4a65c_get_915e3, Cond.code yJx4a65c_get_915e3 cJx4a65c_get_915e3 2 (some (.object "java/lang/Object")), Cond.methodLink RJx4a65c 118 yJ15_checkIndex_7cf53, Cond.static yJ15_checkIndex_7cf53, Cond.initialized RJ15, Cond.code yJ15_checkIndex_7cf53 cJ15_checkIndex_7cf53 2 (some .int)]
def wsX6_value_r2 : List Cond := [Cond.methodLink RJ15 105 yJ3_checkIndex_8e157, Cond.static yJ3_checkIndex_8e157, Cond.initialized RJ3, Cond.code yJ3_checkIndex_8e157 cJ3_checkIndex_8e157 3 (some .int), Cond.methodLink RJx4a65c 123 yJx4a65c_elementData_915e3, Cond.instanceMethod yJx4a65c_elementData_915e3, Cond.selects RJx4a65c yJx4a65c_elementData_915e3 yJx4a65c_elementData_915e3, Cond.code yJx4a65c_elementData_915e3 cJx4a65c_elementData_915e3 2 (some (.object "java/lang/Object")), Cond.fieldLink RJx4a65c 9 "java/util/ArrayList" "elementData" "[Ljava/lang/Object;", Cond.methodLink RX6 70 yX6_demandField, Cond.static yX6_demandField, Cond.code yX6_demandField cX6_demandField 1 none, Cond.methodLink RX6 185 yX6_isField, Cond.static yX6_isField, Cond.code yX6_isField cX6_isField 1 (some .boolean), Cond.methodLink RX6 73 yX6_demandDay, Cond.static yX6_demandDay, Cond.code yX6_demandDay cX6_demandDay 1 none, Cond.methodLink RX6 44 yX6_demandWithin, Cond.static yX6_demandWithin, Cond.code yX6_demandWithin cX6_demandWithin 3 none, Cond.classLink RX6 180 "java/lang/IllegalArgumentException", Cond.initialized "java/lang/IllegalArgumentException", Cond.methodLink RX6 141 yX6_demandKnown]
def wsX6_value_r3 : List Cond := [Cond.instanceMethod yX6_demandKnown, Cond.selects RX6 yX6_demandKnown yX6_demandKnown, Cond.code yX6_demandKnown cX6_demandKnown 2 none, Cond.fieldLink RX6 40 "Backdater" "currentDay" "I", Cond.methodLink RX6 144 yX6_layVersion, Cond.instanceMethod yX6_layVersion, Cond.selects RX6 yX6_layVersion yX6_layVersion, Cond.code yX6_layVersion cX6_layVersion 4 none, Cond.methodLink RX6 206 yX4_begin, Cond.instanceMethod yX4_begin, Cond.selects RX4 yX4_begin yX4_begin, Cond.initialized RX4, Cond.code yX4_begin cX4_begin 1 none, Cond.fieldLink RX4 9 "Backdater$Version" "values" "[I", Cond.fieldLink RX4 15 "Backdater$Version" "covered" "Z", Cond.methodLink RX4 19 yJ7_fill_53178, Cond.static yJ7_fill_53178, Cond.initialized RJ7, Cond.code yJ7_fill_53178 cJ7_fill_53178 4 none, Cond.methodLink RX6 209 yX6_layInFrom, Cond.instanceMethod yX6_layInFrom, Cond.selects RX6 yX6_layInFrom yX6_layInFrom, Cond.code yX6_layInFrom cX6_layInFrom 8 (some .int), Cond.fieldLink RX6 124 "Backdater$Policy" "inOrder" "Ljava/util/List;"]
def wsX6_value_r4 : List Cond := [Cond.methodLink RX6 213 Lib.Math.max.name, Cond.static Lib.Math.max.name, Cond.initialized "java/lang/Math", Cond.code Lib.Math.max.name Lib.Math.max.code 2 (some .int), Cond.classLink RX6 111 "Backdater$Change", Cond.fieldLink RX6 134 "Backdater$Change" "from" "I", Cond.methodLink RX6 137 yX0_isKnownOn, Cond.instanceMethod yX0_isKnownOn, Cond.selects RX0 yX0_isKnownOn yX0_isKnownOn, Cond.initialized RX0, Cond.code yX0_isKnownOn cX0_isKnownOn 2 (some .boolean), Cond.fieldLink RX0 35 "Backdater$Change" "toldOn" "I", Cond.fieldLink RX0 9 "Backdater$Change" "takenBackOn" "I", Cond.methodLink RX6 219 yX4_layIn, Cond.instanceMethod yX4_layIn, Cond.selects RX4 yX4_layIn yX4_layIn, Cond.code yX4_layIn cX4_layIn 3 none, Cond.fieldLink RX4 25 "Backdater$Change" "kind" "LBackdater$Kind;", Cond.fieldLink RX4 31 "Backdater$Kind" "SET" "LBackdater$Kind;", Cond.fieldLink RX4 36 "Backdater$Change" "field" "I", Cond.fieldLink RX4 40 "Backdater$Change" "amount" "I", Cond.fieldLink RX4 47 "Backdater$Kind" "ADD" "LBackdater$Kind;", Cond.methodLink RX4 54 Lib.Math.max.name, Cond.methodLink RX4 60 Lib.Math.min.name]
def wsX6_value_r5 : List Cond := [Cond.static Lib.Math.min.name, Cond.code Lib.Math.min.name Lib.Math.min.code 2 (some .int), Cond.fieldLink RX4 63 "Backdater$Kind" "REINSTATE" "LBackdater$Kind;", Cond.methodLink RX4 43 yX4_putValue, Cond.instanceMethod yX4_putValue, Cond.selects RX4 yX4_putValue yX4_putValue, Cond.code yX4_putValue cX4_putValue 3 none, Cond.methodLink RX4 50 yX4_valueOf, Cond.instanceMethod yX4_valueOf, Cond.selects RX4 yX4_valueOf yX4_valueOf, Cond.code yX4_valueOf cX4_valueOf 2 (some .int), Cond.methodLink RX6 148 yX4_valueOf]
def wsX6_value : List Cond := .code yX6_value cX6_value 6 (some .int) :: ((wsX6_value_r1 ++ (wsX6_value_r2 ++ (wsX6_value_r3 ++ (wsX6_value_r4 ++ wsX6_value_r5)))) ++ wsX60 ++ wsJx4a65c0 ++ wsX40 ++ wsX20 ++ wsX00 ++ (vx_atS RX6 192 "java/lang/IndexOutOfBoundsException" ["java/lang/RuntimeException", "java/lang/Exception"]).filter goodWord ++ (vx_atS RX6 184 "java/lang/IllegalArgumentException" ["java/lang/RuntimeException", "java/lang/Exception"]).filter goodWord)
def wsX6_isCovered_r1 : List Cond := [Cond.fieldLink RX6 29 "Backdater" "version" "LBackdater$Version;", Cond.fieldLink RX6 152 "Backdater$Version" "covered" "Z", Cond.methodLink RX6 84 yX6_policyNumbered, Cond.instanceMethod yX6_policyNumbered, Cond.selects RX6 yX6_policyNumbered yX6_policyNumbered, Cond.initialized RX6, Cond.code yX6_policyNumbered cX6_policyNumbered 2 (some (.object "Backdater$Policy")), Cond.classLink RX6 188 "java/lang/IndexOutOfBoundsException", Cond.initialized "java/lang/IndexOutOfBoundsException", Cond.fieldLink RX6 10 "Backdater" "policies" "Ljava/util/List;", Cond.classLink RX6 61 "Backdater$Policy", Cond.methodLink RX6 48 ⟨"java/util/List", "size", "()I"⟩, Cond.selects RJx4a65c ⟨"java/util/List", "size", "()I"⟩ yJx4a65c_size_8abf5, Cond.instanceMethod yJx4a65c_size_8abf5, Cond.initialized RJx4a65c, Cond.code yJx4a65c_size_8abf5 cJx4a65c_size_8abf5 1 (some .int), Cond.fieldLink RJx4a65c 48 "java/util/ArrayList" "size" "I", Cond.methodLink RX6 127 ⟨"java/util/List", "get", "(I)Ljava/lang/Object;"⟩, Cond.selects RJx4a65c ⟨"java/util/List", "get", "(I)Ljava/lang/Object;"⟩ yJx4a65c_get_915e3, Cond.instanceMethod yJx4a65c_get_915e3, Cond.code yJx4a65c_get_915e3 cJx4a65c_get_915e3 2 (some (.object "java/lang/Object")), Cond.methodLink RJx4a65c 118 yJ15_checkIndex_7cf53, Cond.static yJ15_checkIndex_7cf53, Cond.initialized RJ15]
def wsX6_isCovered_r2 : List Cond := [Cond.code yJ15_checkIndex_7cf53 cJ15_checkIndex_7cf53 2 (some .int), Cond.methodLink RJ15 105 yJ3_checkIndex_8e157, Cond.static yJ3_checkIndex_8e157, Cond.initialized RJ3, Cond.code yJ3_checkIndex_8e157 cJ3_checkIndex_8e157 3 (some .int), Cond.methodLink RJx4a65c 123 yJx4a65c_elementData_915e3, Cond.instanceMethod yJx4a65c_elementData_915e3, Cond.selects RJx4a65c yJx4a65c_elementData_915e3 yJx4a65c_elementData_915e3, Cond.code yJx4a65c_elementData_915e3 cJx4a65c_elementData_915e3 2 (some (.object "java/lang/Object")), Cond.fieldLink RJx4a65c 9 "java/util/ArrayList" "elementData" "[Ljava/lang/Object;", Cond.methodLink RX6 73 yX6_demandDay, Cond.static yX6_demandDay, Cond.code yX6_demandDay cX6_demandDay 1 none, Cond.methodLink RX6 44 yX6_demandWithin, Cond.static yX6_demandWithin, Cond.code yX6_demandWithin cX6_demandWithin 3 none, Cond.classLink RX6 180 "java/lang/IllegalArgumentException", Cond.initialized "java/lang/IllegalArgumentException", Cond.methodLink RX6 141 yX6_demandKnown, Cond.instanceMethod yX6_demandKnown, Cond.selects RX6 yX6_demandKnown yX6_demandKnown, Cond.code yX6_demandKnown cX6_demandKnown 2 none, Cond.fieldLink RX6 40 "Backdater" "currentDay" "I", Cond.methodLink RX6 144 yX6_layVersion]
def wsX6_isCovered_r3 : List Cond := [Cond.instanceMethod yX6_layVersion, Cond.selects RX6 yX6_layVersion yX6_layVersion, Cond.code yX6_layVersion cX6_layVersion 4 none, Cond.methodLink RX6 206 yX4_begin, Cond.instanceMethod yX4_begin, Cond.selects RX4 yX4_begin yX4_begin, Cond.initialized RX4, Cond.code yX4_begin cX4_begin 1 none, Cond.fieldLink RX4 9 "Backdater$Version" "values" "[I", Cond.fieldLink RX4 15 "Backdater$Version" "covered" "Z", Cond.methodLink RX4 19 yJ7_fill_53178, Cond.static yJ7_fill_53178, Cond.initialized RJ7, Cond.code yJ7_fill_53178 cJ7_fill_53178 4 none, Cond.methodLink RX6 209 yX6_layInFrom, Cond.instanceMethod yX6_layInFrom, Cond.selects RX6 yX6_layInFrom yX6_layInFrom, Cond.code yX6_layInFrom cX6_layInFrom 8 (some .int), Cond.fieldLink RX6 124 "Backdater$Policy" "inOrder" "Ljava/util/List;", Cond.methodLink RX6 213 Lib.Math.max.name, Cond.static Lib.Math.max.name, Cond.initialized "java/lang/Math", Cond.code Lib.Math.max.name Lib.Math.max.code 2 (some .int), Cond.classLink RX6 111 "Backdater$Change"]
def wsX6_isCovered_r4 : List Cond := [Cond.fieldLink RX6 134 "Backdater$Change" "from" "I", Cond.methodLink RX6 137 yX0_isKnownOn, Cond.instanceMethod yX0_isKnownOn, Cond.selects RX0 yX0_isKnownOn yX0_isKnownOn, Cond.initialized RX0, Cond.code yX0_isKnownOn cX0_isKnownOn 2 (some .boolean), Cond.fieldLink RX0 35 "Backdater$Change" "toldOn" "I", Cond.fieldLink RX0 9 "Backdater$Change" "takenBackOn" "I", Cond.methodLink RX6 219 yX4_layIn, Cond.instanceMethod yX4_layIn, Cond.selects RX4 yX4_layIn yX4_layIn, Cond.code yX4_layIn cX4_layIn 3 none, Cond.fieldLink RX4 25 "Backdater$Change" "kind" "LBackdater$Kind;", Cond.fieldLink RX4 31 "Backdater$Kind" "SET" "LBackdater$Kind;", Cond.fieldLink RX4 36 "Backdater$Change" "field" "I", Cond.fieldLink RX4 40 "Backdater$Change" "amount" "I", Cond.fieldLink RX4 47 "Backdater$Kind" "ADD" "LBackdater$Kind;", Cond.methodLink RX4 54 Lib.Math.max.name, Cond.methodLink RX4 60 Lib.Math.min.name, Cond.static Lib.Math.min.name, Cond.code Lib.Math.min.name Lib.Math.min.code 2 (some .int), Cond.fieldLink RX4 63 "Backdater$Kind" "REINSTATE" "LBackdater$Kind;", Cond.methodLink RX4 43 yX4_putValue, Cond.instanceMethod yX4_putValue]
def wsX6_isCovered_r5 : List Cond := [Cond.selects RX4 yX4_putValue yX4_putValue, Cond.code yX4_putValue cX4_putValue 3 none, Cond.static yX6_isField, Cond.code yX6_isField cX6_isField 1 (some .boolean), Cond.methodLink RX4 50 yX4_valueOf, Cond.instanceMethod yX4_valueOf, Cond.selects RX4 yX4_valueOf yX4_valueOf, Cond.code yX4_valueOf cX4_valueOf 2 (some .int)]
def wsX6_isCovered : List Cond := .code yX6_isCovered cX6_isCovered 5 (some .boolean) :: ((wsX6_isCovered_r1 ++ (wsX6_isCovered_r2 ++ (wsX6_isCovered_r3 ++ (wsX6_isCovered_r4 ++ wsX6_isCovered_r5)))) ++ wsX60 ++ wsX40 ++ wsJx4a65c0 ++ wsX20 ++ wsX00 ++ (vx_atS RX6 192 "java/lang/IndexOutOfBoundsException" ["java/lang/RuntimeException", "java/lang/Exception"]).filter goodWord ++ (vx_atS RX6 184 "java/lang/IllegalArgumentException" ["java/lang/RuntimeException", "java/lang/Exception"]).filter goodWord)
def wsX6_rateOfVersion : List Cond := .code yX6_rateOfVersion cX6_rateOfVersion 5 (some .int) :: ([.fieldLink RX6 29 "Backdater" "version" "LBackdater$Version;", .fieldLink RX6 152 "Backdater$Version" "covered" "Z", .fieldLink RX6 222 "Backdater$Policy" "base" "I", .fieldLink RX6 22 "Backdater" "tariffs" "LBackdater$Tariffs;", .methodLink RX6 148 yX4_valueOf, .instanceMethod yX4_valueOf, .selects RX4 yX4_valueOf yX4_valueOf, .initialized RX4, .code yX4_valueOf cX4_valueOf 2 (some .int), .fieldLink RX4 9 "Backdater$Version" "values" "[I", .static yX6_isField, .initialized RX6, .code yX6_isField cX6_isField 1 (some .boolean), .methodLink RX6 225 yX3_weightOn, .instanceMethod yX3_weightOn, .selects RX3 yX3_weightOn yX3_weightOn, .initialized RX3, .code yX3_weightOn cX3_weightOn 3 (some .int), .fieldLink RX3 11 "Backdater$Tariffs" "weights" "[[I", .static yX6_isDay, .code yX6_isDay cX6_isDay 1 (some .boolean)] ++ wsX60 ++ wsX40 ++ wsX20 ++ wsX30)
def wsX6_rate_r1 : List Cond := [Cond.methodLink RX6 84 yX6_policyNumbered, Cond.instanceMethod yX6_policyNumbered, Cond.selects RX6 yX6_policyNumbered yX6_policyNumbered, Cond.initialized RX6, Cond.code yX6_policyNumbered cX6_policyNumbered 2 (some (.object "Backdater$Policy")), Cond.classLink RX6 188 "java/lang/IndexOutOfBoundsException", Cond.initialized "java/lang/IndexOutOfBoundsException", Cond.fieldLink RX6 10 "Backdater" "policies" "Ljava/util/List;", Cond.classLink RX6 61 "Backdater$Policy", Cond.methodLink RX6 48 ⟨"java/util/List", "size", "()I"⟩, Cond.selects RJx4a65c ⟨"java/util/List", "size", "()I"⟩ yJx4a65c_size_8abf5, Cond.instanceMethod yJx4a65c_size_8abf5, Cond.initialized RJx4a65c, Cond.code yJx4a65c_size_8abf5 cJx4a65c_size_8abf5 1 (some .int), Cond.fieldLink RJx4a65c 48 "java/util/ArrayList" "size" "I", Cond.methodLink RX6 127 ⟨"java/util/List", "get", "(I)Ljava/lang/Object;"⟩, Cond.selects RJx4a65c ⟨"java/util/List", "get", "(I)Ljava/lang/Object;"⟩ yJx4a65c_get_915e3, Cond.instanceMethod yJx4a65c_get_915e3, Cond.code yJx4a65c_get_915e3 cJx4a65c_get_915e3 2 (some (.object "java/lang/Object")), Cond.methodLink RJx4a65c 118 yJ15_checkIndex_7cf53, Cond.static yJ15_checkIndex_7cf53, Cond.initialized RJ15, Cond.code yJ15_checkIndex_7cf53 cJ15_checkIndex_7cf53 2 (some .int), Cond.methodLink RJ15 105 yJ3_checkIndex_8e157]
def wsX6_rate_r2 : List Cond := [Cond.static yJ3_checkIndex_8e157, Cond.initialized RJ3, Cond.code yJ3_checkIndex_8e157 cJ3_checkIndex_8e157 3 (some .int), Cond.methodLink RJx4a65c 123 yJx4a65c_elementData_915e3, Cond.instanceMethod yJx4a65c_elementData_915e3, Cond.selects RJx4a65c yJx4a65c_elementData_915e3 yJx4a65c_elementData_915e3, Cond.code yJx4a65c_elementData_915e3 cJx4a65c_elementData_915e3 2 (some (.object "java/lang/Object")), Cond.fieldLink RJx4a65c 9 "java/util/ArrayList" "elementData" "[Ljava/lang/Object;", Cond.methodLink RX6 73 yX6_demandDay, Cond.static yX6_demandDay, Cond.code yX6_demandDay cX6_demandDay 1 none, Cond.methodLink RX6 44 yX6_demandWithin, Cond.static yX6_demandWithin, Cond.code yX6_demandWithin cX6_demandWithin 3 none, Cond.classLink RX6 180 "java/lang/IllegalArgumentException", Cond.initialized "java/lang/IllegalArgumentException", Cond.methodLink RX6 141 yX6_demandKnown, Cond.instanceMethod yX6_demandKnown, Cond.selects RX6 yX6_demandKnown yX6_demandKnown, Cond.code yX6_demandKnown cX6_demandKnown 2 none, Cond.fieldLink RX6 40 "Backdater" "currentDay" "I", Cond.methodLink RX6 144 yX6_layVersion, Cond.instanceMethod yX6_layVersion, Cond.selects RX6 yX6_layVersion yX6_layVersion]
def wsX6_rate_r3 : List Cond := [Cond.code yX6_layVersion cX6_layVersion 4 none, Cond.fieldLink RX6 29 "Backdater" "version" "LBackdater$Version;", Cond.methodLink RX6 206 yX4_begin, Cond.instanceMethod yX4_begin, Cond.selects RX4 yX4_begin yX4_begin, Cond.initialized RX4, Cond.code yX4_begin cX4_begin 1 none, Cond.fieldLink RX4 9 "Backdater$Version" "values" "[I", Cond.fieldLink RX4 15 "Backdater$Version" "covered" "Z", Cond.methodLink RX4 19 yJ7_fill_53178, Cond.static yJ7_fill_53178, Cond.initialized RJ7, Cond.code yJ7_fill_53178 cJ7_fill_53178 4 none, Cond.methodLink RX6 209 yX6_layInFrom, Cond.instanceMethod yX6_layInFrom, Cond.selects RX6 yX6_layInFrom yX6_layInFrom, Cond.code yX6_layInFrom cX6_layInFrom 8 (some .int), Cond.fieldLink RX6 124 "Backdater$Policy" "inOrder" "Ljava/util/List;", Cond.methodLink RX6 213 Lib.Math.max.name, Cond.static Lib.Math.max.name, Cond.initialized "java/lang/Math", Cond.code Lib.Math.max.name Lib.Math.max.code 2 (some .int), Cond.classLink RX6 111 "Backdater$Change", Cond.fieldLink RX6 134 "Backdater$Change" "from" "I"]
def wsX6_rate_r4 : List Cond := [Cond.methodLink RX6 137 yX0_isKnownOn, Cond.instanceMethod yX0_isKnownOn, Cond.selects RX0 yX0_isKnownOn yX0_isKnownOn, Cond.initialized RX0, Cond.code yX0_isKnownOn cX0_isKnownOn 2 (some .boolean), Cond.fieldLink RX0 35 "Backdater$Change" "toldOn" "I", Cond.fieldLink RX0 9 "Backdater$Change" "takenBackOn" "I", Cond.methodLink RX6 219 yX4_layIn, Cond.instanceMethod yX4_layIn, Cond.selects RX4 yX4_layIn yX4_layIn, Cond.code yX4_layIn cX4_layIn 3 none, Cond.fieldLink RX4 25 "Backdater$Change" "kind" "LBackdater$Kind;", Cond.fieldLink RX4 31 "Backdater$Kind" "SET" "LBackdater$Kind;", Cond.fieldLink RX4 36 "Backdater$Change" "field" "I", Cond.fieldLink RX4 40 "Backdater$Change" "amount" "I", Cond.fieldLink RX4 47 "Backdater$Kind" "ADD" "LBackdater$Kind;", Cond.methodLink RX4 54 Lib.Math.max.name, Cond.methodLink RX4 60 Lib.Math.min.name, Cond.static Lib.Math.min.name, Cond.code Lib.Math.min.name Lib.Math.min.code 2 (some .int), Cond.fieldLink RX4 63 "Backdater$Kind" "REINSTATE" "LBackdater$Kind;", Cond.methodLink RX4 43 yX4_putValue, Cond.instanceMethod yX4_putValue, Cond.selects RX4 yX4_putValue yX4_putValue]
def wsX6_rate_r5 : List Cond := [Cond.code yX4_putValue cX4_putValue 3 none, Cond.static yX6_isField, Cond.code yX6_isField cX6_isField 1 (some .boolean), Cond.methodLink RX4 50 yX4_valueOf, Cond.instanceMethod yX4_valueOf, Cond.selects RX4 yX4_valueOf yX4_valueOf, Cond.code yX4_valueOf cX4_valueOf 2 (some .int), Cond.methodLink RX6 156 yX6_rateOfVersion, Cond.instanceMethod yX6_rateOfVersion, Cond.selects RX6 yX6_rateOfVersion yX6_rateOfVersion, Cond.code yX6_rateOfVersion cX6_rateOfVersion 5 (some .int), Cond.fieldLink RX6 152 "Backdater$Version" "covered" "Z", Cond.fieldLink RX6 222 "Backdater$Policy" "base" "I", Cond.fieldLink RX6 22 "Backdater" "tariffs" "LBackdater$Tariffs;", Cond.methodLink RX6 148 yX4_valueOf, Cond.methodLink RX6 225 yX3_weightOn, Cond.instanceMethod yX3_weightOn, Cond.selects RX3 yX3_weightOn yX3_weightOn, Cond.initialized RX3, Cond.code yX3_weightOn cX3_weightOn 3 (some .int), Cond.fieldLink RX3 11 "Backdater$Tariffs" "weights" "[[I", Cond.static yX6_isDay, Cond.code yX6_isDay cX6_isDay 1 (some .boolean)]
def wsX6_rate : List Cond := .code yX6_rate cX6_rate 5 (some .int) :: ((wsX6_rate_r1 ++ (wsX6_rate_r2 ++ (wsX6_rate_r3 ++ (wsX6_rate_r4 ++ wsX6_rate_r5)))) ++ wsX60 ++ wsJx4a65c0 ++ wsX40 ++ wsX20 ++ wsX00 ++ wsX30 ++ (vx_atS RX6 192 "java/lang/IndexOutOfBoundsException" ["java/lang/RuntimeException", "java/lang/Exception"]).filter goodWord ++ (vx_atS RX6 184 "java/lang/IllegalArgumentException" ["java/lang/RuntimeException", "java/lang/Exception"]).filter goodWord)
def wsX6_layYear_r1 : List Cond := [Cond.fieldLink RX6 29 "Backdater" "version" "LBackdater$Version;", Cond.fieldLink RX6 36 "Backdater" "year" "LBackdater$Year;", Cond.methodLink RX6 206 yX4_begin, Cond.instanceMethod yX4_begin, Cond.selects RX4 yX4_begin yX4_begin, Cond.initialized RX4, Cond.code yX4_begin cX4_begin 1 none, Cond.fieldLink RX4 9 "Backdater$Version" "values" "[I", Cond.fieldLink RX4 15 "Backdater$Version" "covered" "Z", Cond.methodLink RX4 19 yJ7_fill_53178, Cond.static yJ7_fill_53178, Cond.initialized RJ7, Cond.code yJ7_fill_53178 cJ7_fill_53178 4 none, Cond.methodLink RX6 209 yX6_layInFrom, Cond.instanceMethod yX6_layInFrom, Cond.selects RX6 yX6_layInFrom yX6_layInFrom, Cond.initialized RX6, Cond.code yX6_layInFrom cX6_layInFrom 8 (some .int), Cond.fieldLink RX6 124 "Backdater$Policy" "inOrder" "Ljava/util/List;", Cond.methodLink RX6 213 Lib.Math.max.name, Cond.static Lib.Math.max.name, Cond.initialized "java/lang/Math", Cond.code Lib.Math.max.name Lib.Math.max.code 2 (some .int), Cond.classLink RX6 111 "Backdater$Change"]
def wsX6_layYear_r2 : List Cond := [Cond.fieldLink RX6 134 "Backdater$Change" "from" "I", Cond.methodLink RX6 48 ⟨"java/util/List", "size", "()I"⟩, Cond.selects RJx4a65c ⟨"java/util/List", "size", "()I"⟩ yJx4a65c_size_8abf5, Cond.instanceMethod yJx4a65c_size_8abf5, Cond.initialized RJx4a65c, Cond.code yJx4a65c_size_8abf5 cJx4a65c_size_8abf5 1 (some .int), Cond.fieldLink RJx4a65c 48 "java/util/ArrayList" "size" "I", Cond.methodLink RX6 127 ⟨"java/util/List", "get", "(I)Ljava/lang/Object;"⟩, Cond.selects RJx4a65c ⟨"java/util/List", "get", "(I)Ljava/lang/Object;"⟩ yJx4a65c_get_915e3, Cond.instanceMethod yJx4a65c_get_915e3, Cond.code yJx4a65c_get_915e3 cJx4a65c_get_915e3 2 (some (.object "java/lang/Object")), Cond.methodLink RJx4a65c 118 yJ15_checkIndex_7cf53, Cond.static yJ15_checkIndex_7cf53, Cond.initialized RJ15, Cond.code yJ15_checkIndex_7cf53 cJ15_checkIndex_7cf53 2 (some .int), Cond.methodLink RJ15 105 yJ3_checkIndex_8e157, Cond.static yJ3_checkIndex_8e157, Cond.initialized RJ3, Cond.code yJ3_checkIndex_8e157 cJ3_checkIndex_8e157 3 (some .int), Cond.methodLink RJx4a65c 123 yJx4a65c_elementData_915e3, Cond.instanceMethod yJx4a65c_elementData_915e3, Cond.selects RJx4a65c yJx4a65c_elementData_915e3 yJx4a65c_elementData_915e3, Cond.code yJx4a65c_elementData_915e3 cJx4a65c_elementData_915e3 2 (some (.object "java/lang/Object")), Cond.fieldLink RJx4a65c 9 "java/util/ArrayList" "elementData" "[Ljava/lang/Object;"]
def wsX6_layYear_r3 : List Cond := [Cond.methodLink RX6 137 yX0_isKnownOn, Cond.instanceMethod yX0_isKnownOn, Cond.selects RX0 yX0_isKnownOn yX0_isKnownOn, Cond.initialized RX0, Cond.code yX0_isKnownOn cX0_isKnownOn 2 (some .boolean), Cond.fieldLink RX0 35 "Backdater$Change" "toldOn" "I", Cond.fieldLink RX0 9 "Backdater$Change" "takenBackOn" "I", Cond.methodLink RX6 219 yX4_layIn, Cond.instanceMethod yX4_layIn, Cond.selects RX4 yX4_layIn yX4_layIn, Cond.code yX4_layIn cX4_layIn 3 none, Cond.fieldLink RX4 25 "Backdater$Change" "kind" "LBackdater$Kind;", Cond.fieldLink RX4 31 "Backdater$Kind" "SET" "LBackdater$Kind;", Cond.fieldLink RX4 36 "Backdater$Change" "field" "I", Cond.fieldLink RX4 40 "Backdater$Change" "amount" "I", Cond.fieldLink RX4 47 "Backdater$Kind" "ADD" "LBackdater$Kind;", Cond.methodLink RX4 54 Lib.Math.max.name, Cond.methodLink RX4 60 Lib.Math.min.name, Cond.static Lib.Math.min.name, Cond.code Lib.Math.min.name Lib.Math.min.code 2 (some .int), Cond.fieldLink RX4 63 "Backdater$Kind" "REINSTATE" "LBackdater$Kind;", Cond.methodLink RX4 43 yX4_putValue, Cond.instanceMethod yX4_putValue, Cond.selects RX4 yX4_putValue yX4_putValue]
def wsX6_layYear_r4 : List Cond := [Cond.code yX4_putValue cX4_putValue 3 none, Cond.static yX6_isField, Cond.code yX6_isField cX6_isField 1 (some .boolean), Cond.methodLink RX4 50 yX4_valueOf, Cond.instanceMethod yX4_valueOf, Cond.selects RX4 yX4_valueOf yX4_valueOf, Cond.code yX4_valueOf cX4_valueOf 2 (some .int), Cond.methodLink RX6 156 yX6_rateOfVersion, Cond.instanceMethod yX6_rateOfVersion, Cond.selects RX6 yX6_rateOfVersion yX6_rateOfVersion, Cond.code yX6_rateOfVersion cX6_rateOfVersion 5 (some .int), Cond.fieldLink RX6 152 "Backdater$Version" "covered" "Z", Cond.fieldLink RX6 222 "Backdater$Policy" "base" "I", Cond.fieldLink RX6 22 "Backdater" "tariffs" "LBackdater$Tariffs;", Cond.methodLink RX6 148 yX4_valueOf, Cond.methodLink RX6 225 yX3_weightOn, Cond.instanceMethod yX3_weightOn, Cond.selects RX3 yX3_weightOn yX3_weightOn, Cond.initialized RX3, Cond.code yX3_weightOn cX3_weightOn 3 (some .int), Cond.fieldLink RX3 11 "Backdater$Tariffs" "weights" "[[I", Cond.static yX6_isDay, Cond.code yX6_isDay cX6_isDay 1 (some .boolean), Cond.methodLink RX6 228 yX5_putRate]
def wsX6_layYear_r5 : List Cond := [Cond.instanceMethod yX5_putRate, Cond.selects RX5 yX5_putRate yX5_putRate, Cond.initialized RX5, Cond.code yX5_putRate cX5_putRate 3 none, Cond.fieldLink RX5 9 "Backdater$Year" "rates" "[I", Cond.fieldLink RX5 15 "Backdater$Year" "sums" "[I"]
def wsX6_layYear : List Cond := .code yX6_layYear cX6_layYear 5 none :: ((wsX6_layYear_r1 ++ (wsX6_layYear_r2 ++ (wsX6_layYear_r3 ++ (wsX6_layYear_r4 ++ wsX6_layYear_r5)))) ++ wsX60 ++ wsX40 ++ wsX20 ++ wsX00 ++ wsJx4a65c0 ++ wsX30 ++ wsX50)
def wsX6_segments_r1 : List Cond := [Cond.fieldLink RX6 36 "Backdater" "year" "LBackdater$Year;", Cond.methodLink RX6 84 yX6_policyNumbered, Cond.instanceMethod yX6_policyNumbered, Cond.selects RX6 yX6_policyNumbered yX6_policyNumbered, Cond.initialized RX6, Cond.code yX6_policyNumbered cX6_policyNumbered 2 (some (.object "Backdater$Policy")), Cond.classLink RX6 188 "java/lang/IndexOutOfBoundsException", Cond.initialized "java/lang/IndexOutOfBoundsException", Cond.fieldLink RX6 10 "Backdater" "policies" "Ljava/util/List;", Cond.classLink RX6 61 "Backdater$Policy", Cond.methodLink RX6 48 ⟨"java/util/List", "size", "()I"⟩, Cond.selects RJx4a65c ⟨"java/util/List", "size", "()I"⟩ yJx4a65c_size_8abf5, Cond.instanceMethod yJx4a65c_size_8abf5, Cond.initialized RJx4a65c, Cond.code yJx4a65c_size_8abf5 cJx4a65c_size_8abf5 1 (some .int), Cond.fieldLink RJx4a65c 48 "java/util/ArrayList" "size" "I", Cond.methodLink RX6 127 ⟨"java/util/List", "get", "(I)Ljava/lang/Object;"⟩, Cond.selects RJx4a65c ⟨"java/util/List", "get", "(I)Ljava/lang/Object;"⟩ yJx4a65c_get_915e3, Cond.instanceMethod yJx4a65c_get_915e3, Cond.code yJx4a65c_get_915e3 cJx4a65c_get_915e3 2 (some (.object "java/lang/Object")), Cond.methodLink RJx4a65c 118 yJ15_checkIndex_7cf53, Cond.static yJ15_checkIndex_7cf53, Cond.initialized RJ15, Cond.code yJ15_checkIndex_7cf53 cJ15_checkIndex_7cf53 2 (some .int)]
def wsX6_segments_r2 : List Cond := [Cond.methodLink RJ15 105 yJ3_checkIndex_8e157, Cond.static yJ3_checkIndex_8e157, Cond.initialized RJ3, Cond.code yJ3_checkIndex_8e157 cJ3_checkIndex_8e157 3 (some .int), Cond.methodLink RJx4a65c 123 yJx4a65c_elementData_915e3, Cond.instanceMethod yJx4a65c_elementData_915e3, Cond.selects RJx4a65c yJx4a65c_elementData_915e3 yJx4a65c_elementData_915e3, Cond.code yJx4a65c_elementData_915e3 cJx4a65c_elementData_915e3 2 (some (.object "java/lang/Object")), Cond.fieldLink RJx4a65c 9 "java/util/ArrayList" "elementData" "[Ljava/lang/Object;", Cond.methodLink RX6 141 yX6_demandKnown, Cond.instanceMethod yX6_demandKnown, Cond.selects RX6 yX6_demandKnown yX6_demandKnown, Cond.code yX6_demandKnown cX6_demandKnown 2 none, Cond.fieldLink RX6 40 "Backdater" "currentDay" "I", Cond.methodLink RX6 44 yX6_demandWithin, Cond.static yX6_demandWithin, Cond.code yX6_demandWithin cX6_demandWithin 3 none, Cond.classLink RX6 180 "java/lang/IllegalArgumentException", Cond.initialized "java/lang/IllegalArgumentException", Cond.methodLink RX6 160 yX6_layYear, Cond.instanceMethod yX6_layYear, Cond.selects RX6 yX6_layYear yX6_layYear, Cond.code yX6_layYear cX6_layYear 5 none, Cond.fieldLink RX6 29 "Backdater" "version" "LBackdater$Version;"]
def wsX6_segments_r3 : List Cond := [Cond.methodLink RX6 206 yX4_begin, Cond.instanceMethod yX4_begin, Cond.selects RX4 yX4_begin yX4_begin, Cond.initialized RX4, Cond.code yX4_begin cX4_begin 1 none, Cond.fieldLink RX4 9 "Backdater$Version" "values" "[I", Cond.fieldLink RX4 15 "Backdater$Version" "covered" "Z", Cond.methodLink RX4 19 yJ7_fill_53178, Cond.static yJ7_fill_53178, Cond.initialized RJ7, Cond.code yJ7_fill_53178 cJ7_fill_53178 4 none, Cond.methodLink RX6 209 yX6_layInFrom, Cond.instanceMethod yX6_layInFrom, Cond.selects RX6 yX6_layInFrom yX6_layInFrom, Cond.code yX6_layInFrom cX6_layInFrom 8 (some .int), Cond.fieldLink RX6 124 "Backdater$Policy" "inOrder" "Ljava/util/List;", Cond.methodLink RX6 213 Lib.Math.max.name, Cond.static Lib.Math.max.name, Cond.initialized "java/lang/Math", Cond.code Lib.Math.max.name Lib.Math.max.code 2 (some .int), Cond.classLink RX6 111 "Backdater$Change", Cond.fieldLink RX6 134 "Backdater$Change" "from" "I", Cond.methodLink RX6 137 yX0_isKnownOn, Cond.instanceMethod yX0_isKnownOn]
def wsX6_segments_r4 : List Cond := [Cond.selects RX0 yX0_isKnownOn yX0_isKnownOn, Cond.initialized RX0, Cond.code yX0_isKnownOn cX0_isKnownOn 2 (some .boolean), Cond.fieldLink RX0 35 "Backdater$Change" "toldOn" "I", Cond.fieldLink RX0 9 "Backdater$Change" "takenBackOn" "I", Cond.methodLink RX6 219 yX4_layIn, Cond.instanceMethod yX4_layIn, Cond.selects RX4 yX4_layIn yX4_layIn, Cond.code yX4_layIn cX4_layIn 3 none, Cond.fieldLink RX4 25 "Backdater$Change" "kind" "LBackdater$Kind;", Cond.fieldLink RX4 31 "Backdater$Kind" "SET" "LBackdater$Kind;", Cond.fieldLink RX4 36 "Backdater$Change" "field" "I", Cond.fieldLink RX4 40 "Backdater$Change" "amount" "I", Cond.fieldLink RX4 47 "Backdater$Kind" "ADD" "LBackdater$Kind;", Cond.methodLink RX4 54 Lib.Math.max.name, Cond.methodLink RX4 60 Lib.Math.min.name, Cond.static Lib.Math.min.name, Cond.code Lib.Math.min.name Lib.Math.min.code 2 (some .int), Cond.fieldLink RX4 63 "Backdater$Kind" "REINSTATE" "LBackdater$Kind;", Cond.methodLink RX4 43 yX4_putValue, Cond.instanceMethod yX4_putValue, Cond.selects RX4 yX4_putValue yX4_putValue, Cond.code yX4_putValue cX4_putValue 3 none, Cond.static yX6_isField]
def wsX6_segments_r5 : List Cond := [Cond.code yX6_isField cX6_isField 1 (some .boolean), Cond.methodLink RX4 50 yX4_valueOf, Cond.instanceMethod yX4_valueOf, Cond.selects RX4 yX4_valueOf yX4_valueOf, Cond.code yX4_valueOf cX4_valueOf 2 (some .int), Cond.methodLink RX6 156 yX6_rateOfVersion, Cond.instanceMethod yX6_rateOfVersion, Cond.selects RX6 yX6_rateOfVersion yX6_rateOfVersion, Cond.code yX6_rateOfVersion cX6_rateOfVersion 5 (some .int), Cond.fieldLink RX6 152 "Backdater$Version" "covered" "Z", Cond.fieldLink RX6 222 "Backdater$Policy" "base" "I", Cond.fieldLink RX6 22 "Backdater" "tariffs" "LBackdater$Tariffs;", Cond.methodLink RX6 148 yX4_valueOf, Cond.methodLink RX6 225 yX3_weightOn, Cond.instanceMethod yX3_weightOn, Cond.selects RX3 yX3_weightOn yX3_weightOn, Cond.initialized RX3, Cond.code yX3_weightOn cX3_weightOn 3 (some .int), Cond.fieldLink RX3 11 "Backdater$Tariffs" "weights" "[[I", Cond.static yX6_isDay, Cond.code yX6_isDay cX6_isDay 1 (some .boolean), Cond.methodLink RX6 228 yX5_putRate, Cond.instanceMethod yX5_putRate, Cond.selects RX5 yX5_putRate yX5_putRate]
def wsX6_segments_r6 : List Cond := [Cond.initialized RX5, Cond.code yX5_putRate cX5_putRate 3 none, Cond.fieldLink RX5 9 "Backdater$Year" "rates" "[I", Cond.fieldLink RX5 15 "Backdater$Year" "sums" "[I", Cond.methodLink RX6 164 yX5_countSegments, Cond.instanceMethod yX5_countSegments, Cond.selects RX5 yX5_countSegments yX5_countSegments, Cond.code yX5_countSegments cX5_countSegments 3 (some .int), Cond.methodLink RX5 22 yX5_isStart, Cond.instanceMethod yX5_isStart, Cond.selects RX5 yX5_isStart yX5_isStart, Cond.code yX5_isStart cX5_isStart 2 (some .boolean)]
def wsX6_segments : List Cond := .code yX6_segments cX6_segments 4 (some .int) :: ((wsX6_segments_r1 ++ (wsX6_segments_r2 ++ (wsX6_segments_r3 ++ (wsX6_segments_r4 ++ (wsX6_segments_r5 ++ wsX6_segments_r6))))) ++ wsX60 ++ wsJx4a65c0 ++ wsX40 ++ wsX20 ++ wsX00 ++ wsX30 ++ wsX50 ++ (vx_atS RX6 192 "java/lang/IndexOutOfBoundsException" ["java/lang/RuntimeException", "java/lang/Exception"]).filter goodWord ++ (vx_atS RX6 184 "java/lang/IllegalArgumentException" ["java/lang/RuntimeException", "java/lang/Exception"]).filter goodWord)
def wsX6_startOfSegment_r1 : List Cond := [Cond.classLink RX6 188 "java/lang/IndexOutOfBoundsException", Cond.initialized "java/lang/IndexOutOfBoundsException", Cond.fieldLink RX6 36 "Backdater" "year" "LBackdater$Year;", Cond.methodLink RX6 84 yX6_policyNumbered, Cond.instanceMethod yX6_policyNumbered, Cond.selects RX6 yX6_policyNumbered yX6_policyNumbered, Cond.initialized RX6, Cond.code yX6_policyNumbered cX6_policyNumbered 2 (some (.object "Backdater$Policy")), Cond.fieldLink RX6 10 "Backdater" "policies" "Ljava/util/List;", Cond.classLink RX6 61 "Backdater$Policy", Cond.methodLink RX6 48 ⟨"java/util/List", "size", "()I"⟩, Cond.selects RJx4a65c ⟨"java/util/List", "size", "()I"⟩ yJx4a65c_size_8abf5, Cond.instanceMethod yJx4a65c_size_8abf5, Cond.initialized RJx4a65c, Cond.code yJx4a65c_size_8abf5 cJx4a65c_size_8abf5 1 (some .int), Cond.fieldLink RJx4a65c 48 "java/util/ArrayList" "size" "I", Cond.methodLink RX6 127 ⟨"java/util/List", "get", "(I)Ljava/lang/Object;"⟩, Cond.selects RJx4a65c ⟨"java/util/List", "get", "(I)Ljava/lang/Object;"⟩ yJx4a65c_get_915e3, Cond.instanceMethod yJx4a65c_get_915e3, Cond.code yJx4a65c_get_915e3 cJx4a65c_get_915e3 2 (some (.object "java/lang/Object")), Cond.methodLink RJx4a65c 118 yJ15_checkIndex_7cf53, Cond.static yJ15_checkIndex_7cf53, Cond.initialized RJ15, Cond.code yJ15_checkIndex_7cf53 cJ15_checkIndex_7cf53 2 (some .int)]
def wsX6_startOfSegment_r2 : List Cond := [Cond.methodLink RJ15 105 yJ3_checkIndex_8e157, Cond.static yJ3_checkIndex_8e157, Cond.initialized RJ3, Cond.code yJ3_checkIndex_8e157 cJ3_checkIndex_8e157 3 (some .int), Cond.methodLink RJx4a65c 123 yJx4a65c_elementData_915e3, Cond.instanceMethod yJx4a65c_elementData_915e3, Cond.selects RJx4a65c yJx4a65c_elementData_915e3 yJx4a65c_elementData_915e3, Cond.code yJx4a65c_elementData_915e3 cJx4a65c_elementData_915e3 2 (some (.object "java/lang/Object")), Cond.fieldLink RJx4a65c 9 "java/util/ArrayList" "elementData" "[Ljava/lang/Object;", Cond.methodLink RX6 160 yX6_layYear, Cond.instanceMethod yX6_layYear, Cond.selects RX6 yX6_layYear yX6_layYear, Cond.code yX6_layYear cX6_layYear 5 none, Cond.fieldLink RX6 29 "Backdater" "version" "LBackdater$Version;", Cond.methodLink RX6 206 yX4_begin, Cond.instanceMethod yX4_begin, Cond.selects RX4 yX4_begin yX4_begin, Cond.initialized RX4, Cond.code yX4_begin cX4_begin 1 none, Cond.fieldLink RX4 9 "Backdater$Version" "values" "[I", Cond.fieldLink RX4 15 "Backdater$Version" "covered" "Z", Cond.methodLink RX4 19 yJ7_fill_53178, Cond.static yJ7_fill_53178, Cond.initialized RJ7]
def wsX6_startOfSegment_r3 : List Cond := [Cond.code yJ7_fill_53178 cJ7_fill_53178 4 none, Cond.methodLink RX6 209 yX6_layInFrom, Cond.instanceMethod yX6_layInFrom, Cond.selects RX6 yX6_layInFrom yX6_layInFrom, Cond.code yX6_layInFrom cX6_layInFrom 8 (some .int), Cond.fieldLink RX6 124 "Backdater$Policy" "inOrder" "Ljava/util/List;", Cond.methodLink RX6 213 Lib.Math.max.name, Cond.static Lib.Math.max.name, Cond.initialized "java/lang/Math", Cond.code Lib.Math.max.name Lib.Math.max.code 2 (some .int), Cond.classLink RX6 111 "Backdater$Change", Cond.fieldLink RX6 134 "Backdater$Change" "from" "I", Cond.methodLink RX6 137 yX0_isKnownOn, Cond.instanceMethod yX0_isKnownOn, Cond.selects RX0 yX0_isKnownOn yX0_isKnownOn, Cond.initialized RX0, Cond.code yX0_isKnownOn cX0_isKnownOn 2 (some .boolean), Cond.fieldLink RX0 35 "Backdater$Change" "toldOn" "I", Cond.fieldLink RX0 9 "Backdater$Change" "takenBackOn" "I", Cond.methodLink RX6 219 yX4_layIn, Cond.instanceMethod yX4_layIn, Cond.selects RX4 yX4_layIn yX4_layIn, Cond.code yX4_layIn cX4_layIn 3 none, Cond.fieldLink RX4 25 "Backdater$Change" "kind" "LBackdater$Kind;"]
def wsX6_startOfSegment_r4 : List Cond := [Cond.fieldLink RX4 31 "Backdater$Kind" "SET" "LBackdater$Kind;", Cond.fieldLink RX4 36 "Backdater$Change" "field" "I", Cond.fieldLink RX4 40 "Backdater$Change" "amount" "I", Cond.fieldLink RX4 47 "Backdater$Kind" "ADD" "LBackdater$Kind;", Cond.methodLink RX4 54 Lib.Math.max.name, Cond.methodLink RX4 60 Lib.Math.min.name, Cond.static Lib.Math.min.name, Cond.code Lib.Math.min.name Lib.Math.min.code 2 (some .int), Cond.fieldLink RX4 63 "Backdater$Kind" "REINSTATE" "LBackdater$Kind;", Cond.methodLink RX4 43 yX4_putValue, Cond.instanceMethod yX4_putValue, Cond.selects RX4 yX4_putValue yX4_putValue, Cond.code yX4_putValue cX4_putValue 3 none, Cond.static yX6_isField, Cond.code yX6_isField cX6_isField 1 (some .boolean), Cond.methodLink RX4 50 yX4_valueOf, Cond.instanceMethod yX4_valueOf, Cond.selects RX4 yX4_valueOf yX4_valueOf, Cond.code yX4_valueOf cX4_valueOf 2 (some .int), Cond.methodLink RX6 156 yX6_rateOfVersion, Cond.instanceMethod yX6_rateOfVersion, Cond.selects RX6 yX6_rateOfVersion yX6_rateOfVersion, Cond.code yX6_rateOfVersion cX6_rateOfVersion 5 (some .int), Cond.fieldLink RX6 152 "Backdater$Version" "covered" "Z"]
def wsX6_startOfSegment_r5 : List Cond := [Cond.fieldLink RX6 222 "Backdater$Policy" "base" "I", Cond.fieldLink RX6 22 "Backdater" "tariffs" "LBackdater$Tariffs;", Cond.methodLink RX6 148 yX4_valueOf, Cond.methodLink RX6 225 yX3_weightOn, Cond.instanceMethod yX3_weightOn, Cond.selects RX3 yX3_weightOn yX3_weightOn, Cond.initialized RX3, Cond.code yX3_weightOn cX3_weightOn 3 (some .int), Cond.fieldLink RX3 11 "Backdater$Tariffs" "weights" "[[I", Cond.static yX6_isDay, Cond.code yX6_isDay cX6_isDay 1 (some .boolean), Cond.methodLink RX6 228 yX5_putRate, Cond.instanceMethod yX5_putRate, Cond.selects RX5 yX5_putRate yX5_putRate, Cond.initialized RX5, Cond.code yX5_putRate cX5_putRate 3 none, Cond.fieldLink RX5 9 "Backdater$Year" "rates" "[I", Cond.fieldLink RX5 15 "Backdater$Year" "sums" "[I", Cond.methodLink RX6 232 yX5_startOf, Cond.instanceMethod yX5_startOf, Cond.selects RX5 yX5_startOf yX5_startOf, Cond.code yX5_startOf cX5_startOf 4 (some .int), Cond.methodLink RX5 22 yX5_isStart, Cond.instanceMethod yX5_isStart]
def wsX6_startOfSegment_r6 : List Cond := [Cond.selects RX5 yX5_isStart yX5_isStart, Cond.code yX5_isStart cX5_isStart 2 (some .boolean)]
def wsX6_startOfSegment : List Cond := .code yX6_startOfSegment cX6_startOfSegment 5 (some .int) :: ((wsX6_startOfSegment_r1 ++ (wsX6_startOfSegment_r2 ++ (wsX6_startOfSegment_r3 ++ (wsX6_startOfSegment_r4 ++ (wsX6_startOfSegment_r5 ++ wsX6_startOfSegment_r6))))) ++ wsX60 ++ wsJx4a65c0 ++ wsX40 ++ wsX20 ++ wsX00 ++ wsX30 ++ wsX50 ++ (vx_atS RX6 192 "java/lang/IndexOutOfBoundsException" ["java/lang/RuntimeException", "java/lang/Exception"]).filter goodWord)
def wsX6_segmentStart_r1 : List Cond := [Cond.methodLink RX6 141 yX6_demandKnown, Cond.instanceMethod yX6_demandKnown, Cond.selects RX6 yX6_demandKnown yX6_demandKnown, Cond.initialized RX6, Cond.code yX6_demandKnown cX6_demandKnown 2 none, Cond.fieldLink RX6 40 "Backdater" "currentDay" "I", Cond.methodLink RX6 44 yX6_demandWithin, Cond.static yX6_demandWithin, Cond.code yX6_demandWithin cX6_demandWithin 3 none, Cond.classLink RX6 180 "java/lang/IllegalArgumentException", Cond.initialized "java/lang/IllegalArgumentException", Cond.methodLink RX6 167 yX6_startOfSegment, Cond.instanceMethod yX6_startOfSegment, Cond.selects RX6 yX6_startOfSegment yX6_startOfSegment, Cond.code yX6_startOfSegment cX6_startOfSegment 5 (some .int), Cond.classLink RX6 188 "java/lang/IndexOutOfBoundsException", Cond.initialized "java/lang/IndexOutOfBoundsException", Cond.fieldLink RX6 36 "Backdater" "year" "LBackdater$Year;", Cond.methodLink RX6 84 yX6_policyNumbered, Cond.instanceMethod yX6_policyNumbered, Cond.selects RX6 yX6_policyNumbered yX6_policyNumbered, Cond.code yX6_policyNumbered cX6_policyNumbered 2 (some (.object "Backdater$Policy")), Cond.fieldLink RX6 10 "Backdater" "policies" "Ljava/util/List;", Cond.classLink RX6 61 "Backdater$Policy"]
def wsX6_segmentStart_r2 : List Cond := [Cond.methodLink RX6 48 ⟨"java/util/List", "size", "()I"⟩, Cond.selects RJx4a65c ⟨"java/util/List", "size", "()I"⟩ yJx4a65c_size_8abf5, Cond.instanceMethod yJx4a65c_size_8abf5, Cond.initialized RJx4a65c, Cond.code yJx4a65c_size_8abf5 cJx4a65c_size_8abf5 1 (some .int), Cond.fieldLink RJx4a65c 48 "java/util/ArrayList" "size" "I", Cond.methodLink RX6 127 ⟨"java/util/List", "get", "(I)Ljava/lang/Object;"⟩, Cond.selects RJx4a65c ⟨"java/util/List", "get", "(I)Ljava/lang/Object;"⟩ yJx4a65c_get_915e3, Cond.instanceMethod yJx4a65c_get_915e3, Cond.code yJx4a65c_get_915e3 cJx4a65c_get_915e3 2 (some (.object "java/lang/Object")), Cond.methodLink RJx4a65c 118 yJ15_checkIndex_7cf53, Cond.static yJ15_checkIndex_7cf53, Cond.initialized RJ15, Cond.code yJ15_checkIndex_7cf53 cJ15_checkIndex_7cf53 2 (some .int), Cond.methodLink RJ15 105 yJ3_checkIndex_8e157, Cond.static yJ3_checkIndex_8e157, Cond.initialized RJ3, Cond.code yJ3_checkIndex_8e157 cJ3_checkIndex_8e157 3 (some .int), Cond.methodLink RJx4a65c 123 yJx4a65c_elementData_915e3, Cond.instanceMethod yJx4a65c_elementData_915e3, Cond.selects RJx4a65c yJx4a65c_elementData_915e3 yJx4a65c_elementData_915e3, Cond.code yJx4a65c_elementData_915e3 cJx4a65c_elementData_915e3 2 (some (.object "java/lang/Object")), Cond.fieldLink RJx4a65c 9 "java/util/ArrayList" "elementData" "[Ljava/lang/Object;", Cond.methodLink RX6 160 yX6_layYear]
def wsX6_segmentStart_r3 : List Cond := [Cond.instanceMethod yX6_layYear, Cond.selects RX6 yX6_layYear yX6_layYear, Cond.code yX6_layYear cX6_layYear 5 none, Cond.fieldLink RX6 29 "Backdater" "version" "LBackdater$Version;", Cond.methodLink RX6 206 yX4_begin, Cond.instanceMethod yX4_begin, Cond.selects RX4 yX4_begin yX4_begin, Cond.initialized RX4, Cond.code yX4_begin cX4_begin 1 none, Cond.fieldLink RX4 9 "Backdater$Version" "values" "[I", Cond.fieldLink RX4 15 "Backdater$Version" "covered" "Z", Cond.methodLink RX4 19 yJ7_fill_53178, Cond.static yJ7_fill_53178, Cond.initialized RJ7, Cond.code yJ7_fill_53178 cJ7_fill_53178 4 none, Cond.methodLink RX6 209 yX6_layInFrom, Cond.instanceMethod yX6_layInFrom, Cond.selects RX6 yX6_layInFrom yX6_layInFrom, Cond.code yX6_layInFrom cX6_layInFrom 8 (some .int), Cond.fieldLink RX6 124 "Backdater$Policy" "inOrder" "Ljava/util/List;", Cond.methodLink RX6 213 Lib.Math.max.name, Cond.static Lib.Math.max.name, Cond.initialized "java/lang/Math", Cond.code Lib.Math.max.name Lib.Math.max.code 2 (some .int)]
def wsX6_segmentStart_r4 : List Cond := [Cond.classLink RX6 111 "Backdater$Change", Cond.fieldLink RX6 134 "Backdater$Change" "from" "I", Cond.methodLink RX6 137 yX0_isKnownOn, Cond.instanceMethod yX0_isKnownOn, Cond.selects RX0 yX0_isKnownOn yX0_isKnownOn, Cond.initialized RX0, Cond.code yX0_isKnownOn cX0_isKnownOn 2 (some .boolean), Cond.fieldLink RX0 35 "Backdater$Change" "toldOn" "I", Cond.fieldLink RX0 9 "Backdater$Change" "takenBackOn" "I", Cond.methodLink RX6 219 yX4_layIn, Cond.instanceMethod yX4_layIn, Cond.selects RX4 yX4_layIn yX4_layIn, Cond.code yX4_layIn cX4_layIn 3 none, Cond.fieldLink RX4 25 "Backdater$Change" "kind" "LBackdater$Kind;", Cond.fieldLink RX4 31 "Backdater$Kind" "SET" "LBackdater$Kind;", Cond.fieldLink RX4 36 "Backdater$Change" "field" "I", Cond.fieldLink RX4 40 "Backdater$Change" "amount" "I", Cond.fieldLink RX4 47 "Backdater$Kind" "ADD" "LBackdater$Kind;", Cond.methodLink RX4 54 Lib.Math.max.name, Cond.methodLink RX4 60 Lib.Math.min.name, Cond.static Lib.Math.min.name, Cond.code Lib.Math.min.name Lib.Math.min.code 2 (some .int), Cond.fieldLink RX4 63 "Backdater$Kind" "REINSTATE" "LBackdater$Kind;", Cond.methodLink RX4 43 yX4_putValue]
def wsX6_segmentStart_r5 : List Cond := [Cond.instanceMethod yX4_putValue, Cond.selects RX4 yX4_putValue yX4_putValue, Cond.code yX4_putValue cX4_putValue 3 none, Cond.static yX6_isField, Cond.code yX6_isField cX6_isField 1 (some .boolean), Cond.methodLink RX4 50 yX4_valueOf, Cond.instanceMethod yX4_valueOf, Cond.selects RX4 yX4_valueOf yX4_valueOf, Cond.code yX4_valueOf cX4_valueOf 2 (some .int), Cond.methodLink RX6 156 yX6_rateOfVersion, Cond.instanceMethod yX6_rateOfVersion, Cond.selects RX6 yX6_rateOfVersion yX6_rateOfVersion, Cond.code yX6_rateOfVersion cX6_rateOfVersion 5 (some .int), Cond.fieldLink RX6 152 "Backdater$Version" "covered" "Z", Cond.fieldLink RX6 222 "Backdater$Policy" "base" "I", Cond.fieldLink RX6 22 "Backdater" "tariffs" "LBackdater$Tariffs;", Cond.methodLink RX6 148 yX4_valueOf, Cond.methodLink RX6 225 yX3_weightOn, Cond.instanceMethod yX3_weightOn, Cond.selects RX3 yX3_weightOn yX3_weightOn, Cond.initialized RX3, Cond.code yX3_weightOn cX3_weightOn 3 (some .int), Cond.fieldLink RX3 11 "Backdater$Tariffs" "weights" "[[I", Cond.static yX6_isDay]
def wsX6_segmentStart_r6 : List Cond := [Cond.code yX6_isDay cX6_isDay 1 (some .boolean), Cond.methodLink RX6 228 yX5_putRate, Cond.instanceMethod yX5_putRate, Cond.selects RX5 yX5_putRate yX5_putRate, Cond.initialized RX5, Cond.code yX5_putRate cX5_putRate 3 none, Cond.fieldLink RX5 9 "Backdater$Year" "rates" "[I", Cond.fieldLink RX5 15 "Backdater$Year" "sums" "[I", Cond.methodLink RX6 232 yX5_startOf, Cond.instanceMethod yX5_startOf, Cond.selects RX5 yX5_startOf yX5_startOf, Cond.code yX5_startOf cX5_startOf 4 (some .int), Cond.methodLink RX5 22 yX5_isStart, Cond.instanceMethod yX5_isStart, Cond.selects RX5 yX5_isStart yX5_isStart, Cond.code yX5_isStart cX5_isStart 2 (some .boolean)]
def wsX6_segmentStart : List Cond := .code yX6_segmentStart cX6_segmentStart 4 (some .int) :: ((wsX6_segmentStart_r1 ++ (wsX6_segmentStart_r2 ++ (wsX6_segmentStart_r3 ++ (wsX6_segmentStart_r4 ++ (wsX6_segmentStart_r5 ++ wsX6_segmentStart_r6))))) ++ wsX60 ++ wsJx4a65c0 ++ wsX40 ++ wsX20 ++ wsX00 ++ wsX30 ++ wsX50 ++ (vx_atS RX6 184 "java/lang/IllegalArgumentException" ["java/lang/RuntimeException", "java/lang/Exception"]).filter goodWord ++ (vx_atS RX6 192 "java/lang/IndexOutOfBoundsException" ["java/lang/RuntimeException", "java/lang/Exception"]).filter goodWord)
def wsX6_segmentPremium_r1 : List Cond := [Cond.fieldLink RX6 36 "Backdater" "year" "LBackdater$Year;", Cond.methodLink RX6 141 yX6_demandKnown, Cond.instanceMethod yX6_demandKnown, Cond.selects RX6 yX6_demandKnown yX6_demandKnown, Cond.initialized RX6, Cond.code yX6_demandKnown cX6_demandKnown 2 none, Cond.fieldLink RX6 40 "Backdater" "currentDay" "I", Cond.methodLink RX6 44 yX6_demandWithin, Cond.static yX6_demandWithin, Cond.code yX6_demandWithin cX6_demandWithin 3 none, Cond.classLink RX6 180 "java/lang/IllegalArgumentException", Cond.initialized "java/lang/IllegalArgumentException", Cond.methodLink RX6 167 yX6_startOfSegment, Cond.instanceMethod yX6_startOfSegment, Cond.selects RX6 yX6_startOfSegment yX6_startOfSegment, Cond.code yX6_startOfSegment cX6_startOfSegment 5 (some .int), Cond.classLink RX6 188 "java/lang/IndexOutOfBoundsException", Cond.initialized "java/lang/IndexOutOfBoundsException", Cond.methodLink RX6 84 yX6_policyNumbered, Cond.instanceMethod yX6_policyNumbered, Cond.selects RX6 yX6_policyNumbered yX6_policyNumbered, Cond.code yX6_policyNumbered cX6_policyNumbered 2 (some (.object "Backdater$Policy")), Cond.fieldLink RX6 10 "Backdater" "policies" "Ljava/util/List;", Cond.classLink RX6 61 "Backdater$Policy"]
def wsX6_segmentPremium_r2 : List Cond := [Cond.methodLink RX6 48 ⟨"java/util/List", "size", "()I"⟩, Cond.selects RJx4a65c ⟨"java/util/List", "size", "()I"⟩ yJx4a65c_size_8abf5, Cond.instanceMethod yJx4a65c_size_8abf5, Cond.initialized RJx4a65c, Cond.code yJx4a65c_size_8abf5 cJx4a65c_size_8abf5 1 (some .int), Cond.fieldLink RJx4a65c 48 "java/util/ArrayList" "size" "I", Cond.methodLink RX6 127 ⟨"java/util/List", "get", "(I)Ljava/lang/Object;"⟩, Cond.selects RJx4a65c ⟨"java/util/List", "get", "(I)Ljava/lang/Object;"⟩ yJx4a65c_get_915e3, Cond.instanceMethod yJx4a65c_get_915e3, Cond.code yJx4a65c_get_915e3 cJx4a65c_get_915e3 2 (some (.object "java/lang/Object")), Cond.methodLink RJx4a65c 118 yJ15_checkIndex_7cf53, Cond.static yJ15_checkIndex_7cf53, Cond.initialized RJ15, Cond.code yJ15_checkIndex_7cf53 cJ15_checkIndex_7cf53 2 (some .int), Cond.methodLink RJ15 105 yJ3_checkIndex_8e157, Cond.static yJ3_checkIndex_8e157, Cond.initialized RJ3, Cond.code yJ3_checkIndex_8e157 cJ3_checkIndex_8e157 3 (some .int), Cond.methodLink RJx4a65c 123 yJx4a65c_elementData_915e3, Cond.instanceMethod yJx4a65c_elementData_915e3, Cond.selects RJx4a65c yJx4a65c_elementData_915e3 yJx4a65c_elementData_915e3, Cond.code yJx4a65c_elementData_915e3 cJx4a65c_elementData_915e3 2 (some (.object "java/lang/Object")), Cond.fieldLink RJx4a65c 9 "java/util/ArrayList" "elementData" "[Ljava/lang/Object;", Cond.methodLink RX6 160 yX6_layYear]
def wsX6_segmentPremium_r3 : List Cond := [Cond.instanceMethod yX6_layYear, Cond.selects RX6 yX6_layYear yX6_layYear, Cond.code yX6_layYear cX6_layYear 5 none, Cond.fieldLink RX6 29 "Backdater" "version" "LBackdater$Version;", Cond.methodLink RX6 206 yX4_begin, Cond.instanceMethod yX4_begin, Cond.selects RX4 yX4_begin yX4_begin, Cond.initialized RX4, Cond.code yX4_begin cX4_begin 1 none, Cond.fieldLink RX4 9 "Backdater$Version" "values" "[I", Cond.fieldLink RX4 15 "Backdater$Version" "covered" "Z", Cond.methodLink RX4 19 yJ7_fill_53178, Cond.static yJ7_fill_53178, Cond.initialized RJ7, Cond.code yJ7_fill_53178 cJ7_fill_53178 4 none, Cond.methodLink RX6 209 yX6_layInFrom, Cond.instanceMethod yX6_layInFrom, Cond.selects RX6 yX6_layInFrom yX6_layInFrom, Cond.code yX6_layInFrom cX6_layInFrom 8 (some .int), Cond.fieldLink RX6 124 "Backdater$Policy" "inOrder" "Ljava/util/List;", Cond.methodLink RX6 213 Lib.Math.max.name, Cond.static Lib.Math.max.name, Cond.initialized "java/lang/Math", Cond.code Lib.Math.max.name Lib.Math.max.code 2 (some .int)]
def wsX6_segmentPremium_r4 : List Cond := [Cond.classLink RX6 111 "Backdater$Change", Cond.fieldLink RX6 134 "Backdater$Change" "from" "I", Cond.methodLink RX6 137 yX0_isKnownOn, Cond.instanceMethod yX0_isKnownOn, Cond.selects RX0 yX0_isKnownOn yX0_isKnownOn, Cond.initialized RX0, Cond.code yX0_isKnownOn cX0_isKnownOn 2 (some .boolean), Cond.fieldLink RX0 35 "Backdater$Change" "toldOn" "I", Cond.fieldLink RX0 9 "Backdater$Change" "takenBackOn" "I", Cond.methodLink RX6 219 yX4_layIn, Cond.instanceMethod yX4_layIn, Cond.selects RX4 yX4_layIn yX4_layIn, Cond.code yX4_layIn cX4_layIn 3 none, Cond.fieldLink RX4 25 "Backdater$Change" "kind" "LBackdater$Kind;", Cond.fieldLink RX4 31 "Backdater$Kind" "SET" "LBackdater$Kind;", Cond.fieldLink RX4 36 "Backdater$Change" "field" "I", Cond.fieldLink RX4 40 "Backdater$Change" "amount" "I", Cond.fieldLink RX4 47 "Backdater$Kind" "ADD" "LBackdater$Kind;", Cond.methodLink RX4 54 Lib.Math.max.name, Cond.methodLink RX4 60 Lib.Math.min.name, Cond.static Lib.Math.min.name, Cond.code Lib.Math.min.name Lib.Math.min.code 2 (some .int), Cond.fieldLink RX4 63 "Backdater$Kind" "REINSTATE" "LBackdater$Kind;", Cond.methodLink RX4 43 yX4_putValue]
def wsX6_segmentPremium_r5 : List Cond := [Cond.instanceMethod yX4_putValue, Cond.selects RX4 yX4_putValue yX4_putValue, Cond.code yX4_putValue cX4_putValue 3 none, Cond.static yX6_isField, Cond.code yX6_isField cX6_isField 1 (some .boolean), Cond.methodLink RX4 50 yX4_valueOf, Cond.instanceMethod yX4_valueOf, Cond.selects RX4 yX4_valueOf yX4_valueOf, Cond.code yX4_valueOf cX4_valueOf 2 (some .int), Cond.methodLink RX6 156 yX6_rateOfVersion, Cond.instanceMethod yX6_rateOfVersion, Cond.selects RX6 yX6_rateOfVersion yX6_rateOfVersion, Cond.code yX6_rateOfVersion cX6_rateOfVersion 5 (some .int), Cond.fieldLink RX6 152 "Backdater$Version" "covered" "Z", Cond.fieldLink RX6 222 "Backdater$Policy" "base" "I", Cond.fieldLink RX6 22 "Backdater" "tariffs" "LBackdater$Tariffs;", Cond.methodLink RX6 148 yX4_valueOf, Cond.methodLink RX6 225 yX3_weightOn, Cond.instanceMethod yX3_weightOn, Cond.selects RX3 yX3_weightOn yX3_weightOn, Cond.initialized RX3, Cond.code yX3_weightOn cX3_weightOn 3 (some .int), Cond.fieldLink RX3 11 "Backdater$Tariffs" "weights" "[[I", Cond.static yX6_isDay]
def wsX6_segmentPremium_r6 : List Cond := [Cond.code yX6_isDay cX6_isDay 1 (some .boolean), Cond.methodLink RX6 228 yX5_putRate, Cond.instanceMethod yX5_putRate, Cond.selects RX5 yX5_putRate yX5_putRate, Cond.initialized RX5, Cond.code yX5_putRate cX5_putRate 3 none, Cond.fieldLink RX5 9 "Backdater$Year" "rates" "[I", Cond.fieldLink RX5 15 "Backdater$Year" "sums" "[I", Cond.methodLink RX6 232 yX5_startOf, Cond.instanceMethod yX5_startOf, Cond.selects RX5 yX5_startOf yX5_startOf, Cond.code yX5_startOf cX5_startOf 4 (some .int), Cond.methodLink RX5 22 yX5_isStart, Cond.instanceMethod yX5_isStart, Cond.selects RX5 yX5_isStart yX5_isStart, Cond.code yX5_isStart cX5_isStart 2 (some .boolean), Cond.methodLink RX6 171 yX5_premiumOfSegmentFrom, Cond.instanceMethod yX5_premiumOfSegmentFrom, Cond.selects RX5 yX5_premiumOfSegmentFrom yX5_premiumOfSegmentFrom, Cond.code yX5_premiumOfSegmentFrom cX5_premiumOfSegmentFrom 2 (some .int), Cond.methodLink RX5 25 yX5_dayBehindSegmentFrom, Cond.instanceMethod yX5_dayBehindSegmentFrom, Cond.selects RX5 yX5_dayBehindSegmentFrom yX5_dayBehindSegmentFrom, Cond.code yX5_dayBehindSegmentFrom cX5_dayBehindSegmentFrom 3 (some .int)]
def wsX6_segmentPremium_r7 : List Cond := [Cond.methodLink RX5 29 yX5_chargeUpTo, Cond.instanceMethod yX5_chargeUpTo, Cond.selects RX5 yX5_chargeUpTo yX5_chargeUpTo, Cond.code yX5_chargeUpTo cX5_chargeUpTo 2 (some .int)]
def wsX6_segmentPremium : List Cond := .code yX6_segmentPremium cX6_segmentPremium 4 (some .int) :: ((wsX6_segmentPremium_r1 ++ (wsX6_segmentPremium_r2 ++ (wsX6_segmentPremium_r3 ++ (wsX6_segmentPremium_r4 ++ (wsX6_segmentPremium_r5 ++ (wsX6_segmentPremium_r6 ++ wsX6_segmentPremium_r7)))))) ++ wsX60 ++ wsJx4a65c0 ++ wsX40 ++ wsX20 ++ wsX00 ++ wsX30 ++ wsX50 ++ (vx_atS RX6 184 "java/lang/IllegalArgumentException" ["java/lang/RuntimeException", "java/lang/Exception"]).filter goodWord ++ (vx_atS RX6 192 "java/lang/IndexOutOfBoundsException" ["java/lang/RuntimeException", "java/lang/Exception"]).filter goodWord)
def wsX6_premiumBySegments_r1 : List Cond := [Cond.fieldLink RX6 36 "Backdater" "year" "LBackdater$Year;", Cond.methodLink RX6 160 yX6_layYear, Cond.instanceMethod yX6_layYear, Cond.selects RX6 yX6_layYear yX6_layYear, Cond.initialized RX6, Cond.code yX6_layYear cX6_layYear 5 none, Cond.fieldLink RX6 29 "Backdater" "version" "LBackdater$Version;", Cond.methodLink RX6 206 yX4_begin, Cond.instanceMethod yX4_begin, Cond.selects RX4 yX4_begin yX4_begin, Cond.initialized RX4, Cond.code yX4_begin cX4_begin 1 none, Cond.fieldLink RX4 9 "Backdater$Version" "values" "[I", Cond.fieldLink RX4 15 "Backdater$Version" "covered" "Z", Cond.methodLink RX4 19 yJ7_fill_53178, Cond.static yJ7_fill_53178, Cond.initialized RJ7, Cond.code yJ7_fill_53178 cJ7_fill_53178 4 none, Cond.methodLink RX6 209 yX6_layInFrom, Cond.instanceMethod yX6_layInFrom, Cond.selects RX6 yX6_layInFrom yX6_layInFrom, Cond.code yX6_layInFrom cX6_layInFrom 8 (some .int), Cond.fieldLink RX6 124 "Backdater$Policy" "inOrder" "Ljava/util/List;", Cond.methodLink RX6 213 Lib.Math.max.name]
def wsX6_premiumBySegments_r2 : List Cond := [Cond.static Lib.Math.max.name, Cond.initialized "java/lang/Math", Cond.code Lib.Math.max.name Lib.Math.max.code 2 (some .int), Cond.classLink RX6 111 "Backdater$Change", Cond.fieldLink RX6 134 "Backdater$Change" "from" "I", Cond.methodLink RX6 48 ⟨"java/util/List", "size", "()I"⟩, Cond.selects RJx4a65c ⟨"java/util/List", "size", "()I"⟩ yJx4a65c_size_8abf5, Cond.instanceMethod yJx4a65c_size_8abf5, Cond.initialized RJx4a65c, Cond.code yJx4a65c_size_8abf5 cJx4a65c_size_8abf5 1 (some .int), Cond.fieldLink RJx4a65c 48 "java/util/ArrayList" "size" "I", Cond.methodLink RX6 127 ⟨"java/util/List", "get", "(I)Ljava/lang/Object;"⟩, Cond.selects RJx4a65c ⟨"java/util/List", "get", "(I)Ljava/lang/Object;"⟩ yJx4a65c_get_915e3, Cond.instanceMethod yJx4a65c_get_915e3, Cond.code yJx4a65c_get_915e3 cJx4a65c_get_915e3 2 (some (.object "java/lang/Object")), Cond.methodLink RJx4a65c 118 yJ15_checkIndex_7cf53, Cond.static yJ15_checkIndex_7cf53, Cond.initialized RJ15, Cond.code yJ15_checkIndex_7cf53 cJ15_checkIndex_7cf53 2 (some .int), Cond.methodLink RJ15 105 yJ3_checkIndex_8e157, Cond.static yJ3_checkIndex_8e157, Cond.initialized RJ3, Cond.code yJ3_checkIndex_8e157 cJ3_checkIndex_8e157 3 (some .int), Cond.methodLink RJx4a65c 123 yJx4a65c_elementData_915e3]
def wsX6_premiumBySegments_r3 : List Cond := [Cond.instanceMethod yJx4a65c_elementData_915e3, Cond.selects RJx4a65c yJx4a65c_elementData_915e3 yJx4a65c_elementData_915e3, Cond.code yJx4a65c_elementData_915e3 cJx4a65c_elementData_915e3 2 (some (.object "java/lang/Object")), Cond.fieldLink RJx4a65c 9 "java/util/ArrayList" "elementData" "[Ljava/lang/Object;", Cond.methodLink RX6 137 yX0_isKnownOn, Cond.instanceMethod yX0_isKnownOn, Cond.selects RX0 yX0_isKnownOn yX0_isKnownOn, Cond.initialized RX0, Cond.code yX0_isKnownOn cX0_isKnownOn 2 (some .boolean), Cond.fieldLink RX0 35 "Backdater$Change" "toldOn" "I", Cond.fieldLink RX0 9 "Backdater$Change" "takenBackOn" "I", Cond.methodLink RX6 219 yX4_layIn, Cond.instanceMethod yX4_layIn, Cond.selects RX4 yX4_layIn yX4_layIn, Cond.code yX4_layIn cX4_layIn 3 none, Cond.fieldLink RX4 25 "Backdater$Change" "kind" "LBackdater$Kind;", Cond.fieldLink RX4 31 "Backdater$Kind" "SET" "LBackdater$Kind;", Cond.fieldLink RX4 36 "Backdater$Change" "field" "I", Cond.fieldLink RX4 40 "Backdater$Change" "amount" "I", Cond.fieldLink RX4 47 "Backdater$Kind" "ADD" "LBackdater$Kind;", Cond.methodLink RX4 54 Lib.Math.max.name, Cond.methodLink RX4 60 Lib.Math.min.name, Cond.static Lib.Math.min.name, Cond.code Lib.Math.min.name Lib.Math.min.code 2 (some .int)]
def wsX6_premiumBySegments_r4 : List Cond := [Cond.fieldLink RX4 63 "Backdater$Kind" "REINSTATE" "LBackdater$Kind;", Cond.methodLink RX4 43 yX4_putValue, Cond.instanceMethod yX4_putValue, Cond.selects RX4 yX4_putValue yX4_putValue, Cond.code yX4_putValue cX4_putValue 3 none, Cond.static yX6_isField, Cond.code yX6_isField cX6_isField 1 (some .boolean), Cond.methodLink RX4 50 yX4_valueOf, Cond.instanceMethod yX4_valueOf, Cond.selects RX4 yX4_valueOf yX4_valueOf, Cond.code yX4_valueOf cX4_valueOf 2 (some .int), Cond.methodLink RX6 156 yX6_rateOfVersion, Cond.instanceMethod yX6_rateOfVersion, Cond.selects RX6 yX6_rateOfVersion yX6_rateOfVersion, Cond.code yX6_rateOfVersion cX6_rateOfVersion 5 (some .int), Cond.fieldLink RX6 152 "Backdater$Version" "covered" "Z", Cond.fieldLink RX6 222 "Backdater$Policy" "base" "I", Cond.fieldLink RX6 22 "Backdater" "tariffs" "LBackdater$Tariffs;", Cond.methodLink RX6 148 yX4_valueOf, Cond.methodLink RX6 225 yX3_weightOn, Cond.instanceMethod yX3_weightOn, Cond.selects RX3 yX3_weightOn yX3_weightOn, Cond.initialized RX3, Cond.code yX3_weightOn cX3_weightOn 3 (some .int)]
def wsX6_premiumBySegments_r5 : List Cond := [Cond.fieldLink RX3 11 "Backdater$Tariffs" "weights" "[[I", Cond.static yX6_isDay, Cond.code yX6_isDay cX6_isDay 1 (some .boolean), Cond.methodLink RX6 228 yX5_putRate, Cond.instanceMethod yX5_putRate, Cond.selects RX5 yX5_putRate yX5_putRate, Cond.initialized RX5, Cond.code yX5_putRate cX5_putRate 3 none, Cond.fieldLink RX5 9 "Backdater$Year" "rates" "[I", Cond.fieldLink RX5 15 "Backdater$Year" "sums" "[I", Cond.methodLink RX6 237 yX5_sumOfPremiums, Cond.instanceMethod yX5_sumOfPremiums, Cond.selects RX5 yX5_sumOfPremiums yX5_sumOfPremiums, Cond.code yX5_sumOfPremiums cX5_sumOfPremiums 3 (some .int), Cond.methodLink RX5 22 yX5_isStart, Cond.instanceMethod yX5_isStart, Cond.selects RX5 yX5_isStart yX5_isStart, Cond.code yX5_isStart cX5_isStart 2 (some .boolean), Cond.methodLink RX5 32 yX5_premiumOfSegmentFrom, Cond.instanceMethod yX5_premiumOfSegmentFrom, Cond.selects RX5 yX5_premiumOfSegmentFrom yX5_premiumOfSegmentFrom, Cond.code yX5_premiumOfSegmentFrom cX5_premiumOfSegmentFrom 2 (some .int), Cond.methodLink RX5 25 yX5_dayBehindSegmentFrom, Cond.instanceMethod yX5_dayBehindSegmentFrom]
def wsX6_premiumBySegments_r6 : List Cond := [Cond.selects RX5 yX5_dayBehindSegmentFrom yX5_dayBehindSegmentFrom, Cond.code yX5_dayBehindSegmentFrom cX5_dayBehindSegmentFrom 3 (some .int), Cond.methodLink RX5 29 yX5_chargeUpTo, Cond.instanceMethod yX5_chargeUpTo, Cond.selects RX5 yX5_chargeUpTo yX5_chargeUpTo, Cond.code yX5_chargeUpTo cX5_chargeUpTo 2 (some .int)]
def wsX6_premiumBySegments : List Cond := .code yX6_premiumBySegments cX6_premiumBySegments 3 (some .int) :: ((wsX6_premiumBySegments_r1 ++ (wsX6_premiumBySegments_r2 ++ (wsX6_premiumBySegments_r3 ++ (wsX6_premiumBySegments_r4 ++ (wsX6_premiumBySegments_r5 ++ wsX6_premiumBySegments_r6))))) ++ wsX60 ++ wsX40 ++ wsX20 ++ wsX00 ++ wsJx4a65c0 ++ wsX30 ++ wsX50)
def wsX6_premium_r1 : List Cond := [Cond.methodLink RX6 84 yX6_policyNumbered, Cond.instanceMethod yX6_policyNumbered, Cond.selects RX6 yX6_policyNumbered yX6_policyNumbered, Cond.initialized RX6, Cond.code yX6_policyNumbered cX6_policyNumbered 2 (some (.object "Backdater$Policy")), Cond.classLink RX6 188 "java/lang/IndexOutOfBoundsException", Cond.initialized "java/lang/IndexOutOfBoundsException", Cond.fieldLink RX6 10 "Backdater" "policies" "Ljava/util/List;", Cond.classLink RX6 61 "Backdater$Policy", Cond.methodLink RX6 48 ⟨"java/util/List", "size", "()I"⟩, Cond.selects RJx4a65c ⟨"java/util/List", "size", "()I"⟩ yJx4a65c_size_8abf5, Cond.instanceMethod yJx4a65c_size_8abf5, Cond.initialized RJx4a65c, Cond.code yJx4a65c_size_8abf5 cJx4a65c_size_8abf5 1 (some .int), Cond.fieldLink RJx4a65c 48 "java/util/ArrayList" "size" "I", Cond.methodLink RX6 127 ⟨"java/util/List", "get", "(I)Ljava/lang/Object;"⟩, Cond.selects RJx4a65c ⟨"java/util/List", "get", "(I)Ljava/lang/Object;"⟩ yJx4a65c_get_915e3, Cond.instanceMethod yJx4a65c_get_915e3, Cond.code yJx4a65c_get_915e3 cJx4a65c_get_915e3 2 (some (.object "java/lang/Object")), Cond.methodLink RJx4a65c 118 yJ15_checkIndex_7cf53, Cond.static yJ15_checkIndex_7cf53, Cond.initialized RJ15, Cond.code yJ15_checkIndex_7cf53 cJ15_checkIndex_7cf53 2 (some .int), Cond.methodLink RJ15 105 yJ3_checkIndex_8e157]
def wsX6_premium_r2 : List Cond := [Cond.static yJ3_checkIndex_8e157, Cond.initialized RJ3, Cond.code yJ3_checkIndex_8e157 cJ3_checkIndex_8e157 3 (some .int), Cond.methodLink RJx4a65c 123 yJx4a65c_elementData_915e3, Cond.instanceMethod yJx4a65c_elementData_915e3, Cond.selects RJx4a65c yJx4a65c_elementData_915e3 yJx4a65c_elementData_915e3, Cond.code yJx4a65c_elementData_915e3 cJx4a65c_elementData_915e3 2 (some (.object "java/lang/Object")), Cond.fieldLink RJx4a65c 9 "java/util/ArrayList" "elementData" "[Ljava/lang/Object;", Cond.methodLink RX6 141 yX6_demandKnown, Cond.instanceMethod yX6_demandKnown, Cond.selects RX6 yX6_demandKnown yX6_demandKnown, Cond.code yX6_demandKnown cX6_demandKnown 2 none, Cond.fieldLink RX6 40 "Backdater" "currentDay" "I", Cond.methodLink RX6 44 yX6_demandWithin, Cond.static yX6_demandWithin, Cond.code yX6_demandWithin cX6_demandWithin 3 none, Cond.classLink RX6 180 "java/lang/IllegalArgumentException", Cond.initialized "java/lang/IllegalArgumentException", Cond.methodLink RX6 174 yX6_premiumBySegments, Cond.instanceMethod yX6_premiumBySegments, Cond.selects RX6 yX6_premiumBySegments yX6_premiumBySegments, Cond.code yX6_premiumBySegments cX6_premiumBySegments 3 (some .int), Cond.fieldLink RX6 36 "Backdater" "year" "LBackdater$Year;", Cond.methodLink RX6 160 yX6_layYear]
def wsX6_premium_r3 : List Cond := [Cond.instanceMethod yX6_layYear, Cond.selects RX6 yX6_layYear yX6_layYear, Cond.code yX6_layYear cX6_layYear 5 none, Cond.fieldLink RX6 29 "Backdater" "version" "LBackdater$Version;", Cond.methodLink RX6 206 yX4_begin, Cond.instanceMethod yX4_begin, Cond.selects RX4 yX4_begin yX4_begin, Cond.initialized RX4, Cond.code yX4_begin cX4_begin 1 none, Cond.fieldLink RX4 9 "Backdater$Version" "values" "[I", Cond.fieldLink RX4 15 "Backdater$Version" "covered" "Z", Cond.methodLink RX4 19 yJ7_fill_53178, Cond.static yJ7_fill_53178, Cond.initialized RJ7, Cond.code yJ7_fill_53178 cJ7_fill_53178 4 none, Cond.methodLink RX6 209 yX6_layInFrom, Cond.instanceMethod yX6_layInFrom, Cond.selects RX6 yX6_layInFrom yX6_layInFrom, Cond.code yX6_layInFrom cX6_layInFrom 8 (some .int), Cond.fieldLink RX6 124 "Backdater$Policy" "inOrder" "Ljava/util/List;", Cond.methodLink RX6 213 Lib.Math.max.name, Cond.static Lib.Math.max.name, Cond.initialized "java/lang/Math", Cond.code Lib.Math.max.name Lib.Math.max.code 2 (some .int)]
def wsX6_premium_r4 : List Cond := [Cond.classLink RX6 111 "Backdater$Change", Cond.fieldLink RX6 134 "Backdater$Change" "from" "I", Cond.methodLink RX6 137 yX0_isKnownOn, Cond.instanceMethod yX0_isKnownOn, Cond.selects RX0 yX0_isKnownOn yX0_isKnownOn, Cond.initialized RX0, Cond.code yX0_isKnownOn cX0_isKnownOn 2 (some .boolean), Cond.fieldLink RX0 35 "Backdater$Change" "toldOn" "I", Cond.fieldLink RX0 9 "Backdater$Change" "takenBackOn" "I", Cond.methodLink RX6 219 yX4_layIn, Cond.instanceMethod yX4_layIn, Cond.selects RX4 yX4_layIn yX4_layIn, Cond.code yX4_layIn cX4_layIn 3 none, Cond.fieldLink RX4 25 "Backdater$Change" "kind" "LBackdater$Kind;", Cond.fieldLink RX4 31 "Backdater$Kind" "SET" "LBackdater$Kind;", Cond.fieldLink RX4 36 "Backdater$Change" "field" "I", Cond.fieldLink RX4 40 "Backdater$Change" "amount" "I", Cond.fieldLink RX4 47 "Backdater$Kind" "ADD" "LBackdater$Kind;", Cond.methodLink RX4 54 Lib.Math.max.name, Cond.methodLink RX4 60 Lib.Math.min.name, Cond.static Lib.Math.min.name, Cond.code Lib.Math.min.name Lib.Math.min.code 2 (some .int), Cond.fieldLink RX4 63 "Backdater$Kind" "REINSTATE" "LBackdater$Kind;", Cond.methodLink RX4 43 yX4_putValue]
def wsX6_premium_r5 : List Cond := [Cond.instanceMethod yX4_putValue, Cond.selects RX4 yX4_putValue yX4_putValue, Cond.code yX4_putValue cX4_putValue 3 none, Cond.static yX6_isField, Cond.code yX6_isField cX6_isField 1 (some .boolean), Cond.methodLink RX4 50 yX4_valueOf, Cond.instanceMethod yX4_valueOf, Cond.selects RX4 yX4_valueOf yX4_valueOf, Cond.code yX4_valueOf cX4_valueOf 2 (some .int), Cond.methodLink RX6 156 yX6_rateOfVersion, Cond.instanceMethod yX6_rateOfVersion, Cond.selects RX6 yX6_rateOfVersion yX6_rateOfVersion, Cond.code yX6_rateOfVersion cX6_rateOfVersion 5 (some .int), Cond.fieldLink RX6 152 "Backdater$Version" "covered" "Z", Cond.fieldLink RX6 222 "Backdater$Policy" "base" "I", Cond.fieldLink RX6 22 "Backdater" "tariffs" "LBackdater$Tariffs;", Cond.methodLink RX6 148 yX4_valueOf, Cond.methodLink RX6 225 yX3_weightOn, Cond.instanceMethod yX3_weightOn, Cond.selects RX3 yX3_weightOn yX3_weightOn, Cond.initialized RX3, Cond.code yX3_weightOn cX3_weightOn 3 (some .int), Cond.fieldLink RX3 11 "Backdater$Tariffs" "weights" "[[I", Cond.static yX6_isDay]
def wsX6_premium_r6 : List Cond := [Cond.code yX6_isDay cX6_isDay 1 (some .boolean), Cond.methodLink RX6 228 yX5_putRate, Cond.instanceMethod yX5_putRate, Cond.selects RX5 yX5_putRate yX5_putRate, Cond.initialized RX5, Cond.code yX5_putRate cX5_putRate 3 none, Cond.fieldLink RX5 9 "Backdater$Year" "rates" "[I", Cond.fieldLink RX5 15 "Backdater$Year" "sums" "[I", Cond.methodLink RX6 237 yX5_sumOfPremiums, Cond.instanceMethod yX5_sumOfPremiums, Cond.selects RX5 yX5_sumOfPremiums yX5_sumOfPremiums, Cond.code yX5_sumOfPremiums cX5_sumOfPremiums 3 (some .int), Cond.methodLink RX5 22 yX5_isStart, Cond.instanceMethod yX5_isStart, Cond.selects RX5 yX5_isStart yX5_isStart, Cond.code yX5_isStart cX5_isStart 2 (some .boolean), Cond.methodLink RX5 32 yX5_premiumOfSegmentFrom, Cond.instanceMethod yX5_premiumOfSegmentFrom, Cond.selects RX5 yX5_premiumOfSegmentFrom yX5_premiumOfSegmentFrom, Cond.code yX5_premiumOfSegmentFrom cX5_premiumOfSegmentFrom 2 (some .int), Cond.methodLink RX5 25 yX5_dayBehindSegmentFrom, Cond.instanceMethod yX5_dayBehindSegmentFrom, Cond.selects RX5 yX5_dayBehindSegmentFrom yX5_dayBehindSegmentFrom, Cond.code yX5_dayBehindSegmentFrom cX5_dayBehindSegmentFrom 3 (some .int)]
def wsX6_premium_r7 : List Cond := [Cond.methodLink RX5 29 yX5_chargeUpTo, Cond.instanceMethod yX5_chargeUpTo, Cond.selects RX5 yX5_chargeUpTo yX5_chargeUpTo, Cond.code yX5_chargeUpTo cX5_chargeUpTo 2 (some .int)]
def wsX6_premium : List Cond := .code yX6_premium cX6_premium 4 (some .int) :: ((wsX6_premium_r1 ++ (wsX6_premium_r2 ++ (wsX6_premium_r3 ++ (wsX6_premium_r4 ++ (wsX6_premium_r5 ++ (wsX6_premium_r6 ++ wsX6_premium_r7)))))) ++ wsX60 ++ wsJx4a65c0 ++ wsX40 ++ wsX20 ++ wsX00 ++ wsX30 ++ wsX50 ++ (vx_atS RX6 192 "java/lang/IndexOutOfBoundsException" ["java/lang/RuntimeException", "java/lang/Exception"]).filter goodWord ++ (vx_atS RX6 184 "java/lang/IllegalArgumentException" ["java/lang/RuntimeException", "java/lang/Exception"]).filter goodWord)
def wsX6_premiumByDays_r1 : List Cond := [Cond.methodLink RX6 84 yX6_policyNumbered, Cond.instanceMethod yX6_policyNumbered, Cond.selects RX6 yX6_policyNumbered yX6_policyNumbered, Cond.initialized RX6, Cond.code yX6_policyNumbered cX6_policyNumbered 2 (some (.object "Backdater$Policy")), Cond.classLink RX6 188 "java/lang/IndexOutOfBoundsException", Cond.initialized "java/lang/IndexOutOfBoundsException", Cond.fieldLink RX6 10 "Backdater" "policies" "Ljava/util/List;", Cond.classLink RX6 61 "Backdater$Policy", Cond.methodLink RX6 48 ⟨"java/util/List", "size", "()I"⟩, Cond.selects RJx4a65c ⟨"java/util/List", "size", "()I"⟩ yJx4a65c_size_8abf5, Cond.instanceMethod yJx4a65c_size_8abf5, Cond.initialized RJx4a65c, Cond.code yJx4a65c_size_8abf5 cJx4a65c_size_8abf5 1 (some .int), Cond.fieldLink RJx4a65c 48 "java/util/ArrayList" "size" "I", Cond.methodLink RX6 127 ⟨"java/util/List", "get", "(I)Ljava/lang/Object;"⟩, Cond.selects RJx4a65c ⟨"java/util/List", "get", "(I)Ljava/lang/Object;"⟩ yJx4a65c_get_915e3, Cond.instanceMethod yJx4a65c_get_915e3, Cond.code yJx4a65c_get_915e3 cJx4a65c_get_915e3 2 (some (.object "java/lang/Object")), Cond.methodLink RJx4a65c 118 yJ15_checkIndex_7cf53, Cond.static yJ15_checkIndex_7cf53, Cond.initialized RJ15, Cond.code yJ15_checkIndex_7cf53 cJ15_checkIndex_7cf53 2 (some .int), Cond.methodLink RJ15 105 yJ3_checkIndex_8e157]
def wsX6_premiumByDays_r2 : List Cond := [Cond.static yJ3_checkIndex_8e157, Cond.initialized RJ3, Cond.code yJ3_checkIndex_8e157 cJ3_checkIndex_8e157 3 (some .int), Cond.methodLink RJx4a65c 123 yJx4a65c_elementData_915e3, Cond.instanceMethod yJx4a65c_elementData_915e3, Cond.selects RJx4a65c yJx4a65c_elementData_915e3 yJx4a65c_elementData_915e3, Cond.code yJx4a65c_elementData_915e3 cJx4a65c_elementData_915e3 2 (some (.object "java/lang/Object")), Cond.fieldLink RJx4a65c 9 "java/util/ArrayList" "elementData" "[Ljava/lang/Object;", Cond.methodLink RX6 141 yX6_demandKnown, Cond.instanceMethod yX6_demandKnown, Cond.selects RX6 yX6_demandKnown yX6_demandKnown, Cond.code yX6_demandKnown cX6_demandKnown 2 none, Cond.fieldLink RX6 40 "Backdater" "currentDay" "I", Cond.methodLink RX6 44 yX6_demandWithin, Cond.static yX6_demandWithin, Cond.code yX6_demandWithin cX6_demandWithin 3 none, Cond.classLink RX6 180 "java/lang/IllegalArgumentException", Cond.initialized "java/lang/IllegalArgumentException", Cond.methodLink RX6 144 yX6_layVersion, Cond.instanceMethod yX6_layVersion, Cond.selects RX6 yX6_layVersion yX6_layVersion, Cond.code yX6_layVersion cX6_layVersion 4 none, Cond.fieldLink RX6 29 "Backdater" "version" "LBackdater$Version;", Cond.methodLink RX6 206 yX4_begin]
def wsX6_premiumByDays_r3 : List Cond := [Cond.instanceMethod yX4_begin, Cond.selects RX4 yX4_begin yX4_begin, Cond.initialized RX4, Cond.code yX4_begin cX4_begin 1 none, Cond.fieldLink RX4 9 "Backdater$Version" "values" "[I", Cond.fieldLink RX4 15 "Backdater$Version" "covered" "Z", Cond.methodLink RX4 19 yJ7_fill_53178, Cond.static yJ7_fill_53178, Cond.initialized RJ7, Cond.code yJ7_fill_53178 cJ7_fill_53178 4 none, Cond.methodLink RX6 209 yX6_layInFrom, Cond.instanceMethod yX6_layInFrom, Cond.selects RX6 yX6_layInFrom yX6_layInFrom, Cond.code yX6_layInFrom cX6_layInFrom 8 (some .int), Cond.fieldLink RX6 124 "Backdater$Policy" "inOrder" "Ljava/util/List;", Cond.methodLink RX6 213 Lib.Math.max.name, Cond.static Lib.Math.max.name, Cond.initialized "java/lang/Math", Cond.code Lib.Math.max.name Lib.Math.max.code 2 (some .int), Cond.classLink RX6 111 "Backdater$Change", Cond.fieldLink RX6 134 "Backdater$Change" "from" "I", Cond.methodLink RX6 137 yX0_isKnownOn, Cond.instanceMethod yX0_isKnownOn, Cond.selects RX0 yX0_isKnownOn yX0_isKnownOn]
def wsX6_premiumByDays_r4 : List Cond := [Cond.initialized RX0, Cond.code yX0_isKnownOn cX0_isKnownOn 2 (some .boolean), Cond.fieldLink RX0 35 "Backdater$Change" "toldOn" "I", Cond.fieldLink RX0 9 "Backdater$Change" "takenBackOn" "I", Cond.methodLink RX6 219 yX4_layIn, Cond.instanceMethod yX4_layIn, Cond.selects RX4 yX4_layIn yX4_layIn, Cond.code yX4_layIn cX4_layIn 3 none, Cond.fieldLink RX4 25 "Backdater$Change" "kind" "LBackdater$Kind;", Cond.fieldLink RX4 31 "Backdater$Kind" "SET" "LBackdater$Kind;", Cond.fieldLink RX4 36 "Backdater$Change" "field" "I", Cond.fieldLink RX4 40 "Backdater$Change" "amount" "I", Cond.fieldLink RX4 47 "Backdater$Kind" "ADD" "LBackdater$Kind;", Cond.methodLink RX4 54 Lib.Math.max.name, Cond.methodLink RX4 60 Lib.Math.min.name, Cond.static Lib.Math.min.name, Cond.code Lib.Math.min.name Lib.Math.min.code 2 (some .int), Cond.fieldLink RX4 63 "Backdater$Kind" "REINSTATE" "LBackdater$Kind;", Cond.methodLink RX4 43 yX4_putValue, Cond.instanceMethod yX4_putValue, Cond.selects RX4 yX4_putValue yX4_putValue, Cond.code yX4_putValue cX4_putValue 3 none, Cond.static yX6_isField, Cond.code yX6_isField cX6_isField 1 (some .boolean)]
def wsX6_premiumByDays_r5 : List Cond := [Cond.methodLink RX4 50 yX4_valueOf, Cond.instanceMethod yX4_valueOf, Cond.selects RX4 yX4_valueOf yX4_valueOf, Cond.code yX4_valueOf cX4_valueOf 2 (some .int), Cond.methodLink RX6 156 yX6_rateOfVersion, Cond.instanceMethod yX6_rateOfVersion, Cond.selects RX6 yX6_rateOfVersion yX6_rateOfVersion, Cond.code yX6_rateOfVersion cX6_rateOfVersion 5 (some .int), Cond.fieldLink RX6 152 "Backdater$Version" "covered" "Z", Cond.fieldLink RX6 222 "Backdater$Policy" "base" "I", Cond.fieldLink RX6 22 "Backdater" "tariffs" "LBackdater$Tariffs;", Cond.methodLink RX6 148 yX4_valueOf, Cond.methodLink RX6 225 yX3_weightOn, Cond.instanceMethod yX3_weightOn, Cond.selects RX3 yX3_weightOn yX3_weightOn, Cond.initialized RX3, Cond.code yX3_weightOn cX3_weightOn 3 (some .int), Cond.fieldLink RX3 11 "Backdater$Tariffs" "weights" "[[I", Cond.static yX6_isDay, Cond.code yX6_isDay cX6_isDay 1 (some .boolean)]
def wsX6_premiumByDays : List Cond := .code yX6_premiumByDays cX6_premiumByDays 6 (some .int) :: ((wsX6_premiumByDays_r1 ++ (wsX6_premiumByDays_r2 ++ (wsX6_premiumByDays_r3 ++ (wsX6_premiumByDays_r4 ++ wsX6_premiumByDays_r5)))) ++ wsX60 ++ wsJx4a65c0 ++ wsX40 ++ wsX20 ++ wsX00 ++ wsX30 ++ (vx_atS RX6 192 "java/lang/IndexOutOfBoundsException" ["java/lang/RuntimeException", "java/lang/Exception"]).filter goodWord ++ (vx_atS RX6 184 "java/lang/IllegalArgumentException" ["java/lang/RuntimeException", "java/lang/Exception"]).filter goodWord)
def wsX6_bill_r1 : List Cond := [Cond.fieldLink RX6 40 "Backdater" "currentDay" "I", Cond.fieldLink RX6 177 "Backdater$Policy" "billedSoFar" "I", Cond.methodLink RX6 84 yX6_policyNumbered, Cond.instanceMethod yX6_policyNumbered, Cond.selects RX6 yX6_policyNumbered yX6_policyNumbered, Cond.initialized RX6, Cond.code yX6_policyNumbered cX6_policyNumbered 2 (some (.object "Backdater$Policy")), Cond.classLink RX6 188 "java/lang/IndexOutOfBoundsException", Cond.initialized "java/lang/IndexOutOfBoundsException", Cond.fieldLink RX6 10 "Backdater" "policies" "Ljava/util/List;", Cond.classLink RX6 61 "Backdater$Policy", Cond.methodLink RX6 48 ⟨"java/util/List", "size", "()I"⟩, Cond.selects RJx4a65c ⟨"java/util/List", "size", "()I"⟩ yJx4a65c_size_8abf5, Cond.instanceMethod yJx4a65c_size_8abf5, Cond.initialized RJx4a65c, Cond.code yJx4a65c_size_8abf5 cJx4a65c_size_8abf5 1 (some .int), Cond.fieldLink RJx4a65c 48 "java/util/ArrayList" "size" "I", Cond.methodLink RX6 127 ⟨"java/util/List", "get", "(I)Ljava/lang/Object;"⟩, Cond.selects RJx4a65c ⟨"java/util/List", "get", "(I)Ljava/lang/Object;"⟩ yJx4a65c_get_915e3, Cond.instanceMethod yJx4a65c_get_915e3, Cond.code yJx4a65c_get_915e3 cJx4a65c_get_915e3 2 (some (.object "java/lang/Object")), Cond.methodLink RJx4a65c 118 yJ15_checkIndex_7cf53, Cond.static yJ15_checkIndex_7cf53, Cond.initialized RJ15]
def wsX6_bill_r2 : List Cond := [Cond.code yJ15_checkIndex_7cf53 cJ15_checkIndex_7cf53 2 (some .int), Cond.methodLink RJ15 105 yJ3_checkIndex_8e157, Cond.static yJ3_checkIndex_8e157, Cond.initialized RJ3, Cond.code yJ3_checkIndex_8e157 cJ3_checkIndex_8e157 3 (some .int), Cond.methodLink RJx4a65c 123 yJx4a65c_elementData_915e3, Cond.instanceMethod yJx4a65c_elementData_915e3, Cond.selects RJx4a65c yJx4a65c_elementData_915e3 yJx4a65c_elementData_915e3, Cond.code yJx4a65c_elementData_915e3 cJx4a65c_elementData_915e3 2 (some (.object "java/lang/Object")), Cond.fieldLink RJx4a65c 9 "java/util/ArrayList" "elementData" "[Ljava/lang/Object;", Cond.methodLink RX6 174 yX6_premiumBySegments, Cond.instanceMethod yX6_premiumBySegments, Cond.selects RX6 yX6_premiumBySegments yX6_premiumBySegments, Cond.code yX6_premiumBySegments cX6_premiumBySegments 3 (some .int), Cond.fieldLink RX6 36 "Backdater" "year" "LBackdater$Year;", Cond.methodLink RX6 160 yX6_layYear, Cond.instanceMethod yX6_layYear, Cond.selects RX6 yX6_layYear yX6_layYear, Cond.code yX6_layYear cX6_layYear 5 none, Cond.fieldLink RX6 29 "Backdater" "version" "LBackdater$Version;", Cond.methodLink RX6 206 yX4_begin, Cond.instanceMethod yX4_begin, Cond.selects RX4 yX4_begin yX4_begin, Cond.initialized RX4]
def wsX6_bill_r3 : List Cond := [Cond.code yX4_begin cX4_begin 1 none, Cond.fieldLink RX4 9 "Backdater$Version" "values" "[I", Cond.fieldLink RX4 15 "Backdater$Version" "covered" "Z", Cond.methodLink RX4 19 yJ7_fill_53178, Cond.static yJ7_fill_53178, Cond.initialized RJ7, Cond.code yJ7_fill_53178 cJ7_fill_53178 4 none, Cond.methodLink RX6 209 yX6_layInFrom, Cond.instanceMethod yX6_layInFrom, Cond.selects RX6 yX6_layInFrom yX6_layInFrom, Cond.code yX6_layInFrom cX6_layInFrom 8 (some .int), Cond.fieldLink RX6 124 "Backdater$Policy" "inOrder" "Ljava/util/List;", Cond.methodLink RX6 213 Lib.Math.max.name, Cond.static Lib.Math.max.name, Cond.initialized "java/lang/Math", Cond.code Lib.Math.max.name Lib.Math.max.code 2 (some .int), Cond.classLink RX6 111 "Backdater$Change", Cond.fieldLink RX6 134 "Backdater$Change" "from" "I", Cond.methodLink RX6 137 yX0_isKnownOn, Cond.instanceMethod yX0_isKnownOn, Cond.selects RX0 yX0_isKnownOn yX0_isKnownOn, Cond.initialized RX0, Cond.code yX0_isKnownOn cX0_isKnownOn 2 (some .boolean), Cond.fieldLink RX0 35 "Backdater$Change" "toldOn" "I"]
def wsX6_bill_r4 : List Cond := [Cond.fieldLink RX0 9 "Backdater$Change" "takenBackOn" "I", Cond.methodLink RX6 219 yX4_layIn, Cond.instanceMethod yX4_layIn, Cond.selects RX4 yX4_layIn yX4_layIn, Cond.code yX4_layIn cX4_layIn 3 none, Cond.fieldLink RX4 25 "Backdater$Change" "kind" "LBackdater$Kind;", Cond.fieldLink RX4 31 "Backdater$Kind" "SET" "LBackdater$Kind;", Cond.fieldLink RX4 36 "Backdater$Change" "field" "I", Cond.fieldLink RX4 40 "Backdater$Change" "amount" "I", Cond.fieldLink RX4 47 "Backdater$Kind" "ADD" "LBackdater$Kind;", Cond.methodLink RX4 54 Lib.Math.max.name, Cond.methodLink RX4 60 Lib.Math.min.name, Cond.static Lib.Math.min.name, Cond.code Lib.Math.min.name Lib.Math.min.code 2 (some .int), Cond.fieldLink RX4 63 "Backdater$Kind" "REINSTATE" "LBackdater$Kind;", Cond.methodLink RX4 43 yX4_putValue, Cond.instanceMethod yX4_putValue, Cond.selects RX4 yX4_putValue yX4_putValue, Cond.code yX4_putValue cX4_putValue 3 none, Cond.static yX6_isField, Cond.code yX6_isField cX6_isField 1 (some .boolean), Cond.methodLink RX4 50 yX4_valueOf, Cond.instanceMethod yX4_valueOf, Cond.selects RX4 yX4_valueOf yX4_valueOf]
def wsX6_bill_r5 : List Cond := [Cond.code yX4_valueOf cX4_valueOf 2 (some .int), Cond.methodLink RX6 156 yX6_rateOfVersion, Cond.instanceMethod yX6_rateOfVersion, Cond.selects RX6 yX6_rateOfVersion yX6_rateOfVersion, Cond.code yX6_rateOfVersion cX6_rateOfVersion 5 (some .int), Cond.fieldLink RX6 152 "Backdater$Version" "covered" "Z", Cond.fieldLink RX6 222 "Backdater$Policy" "base" "I", Cond.fieldLink RX6 22 "Backdater" "tariffs" "LBackdater$Tariffs;", Cond.methodLink RX6 148 yX4_valueOf, Cond.methodLink RX6 225 yX3_weightOn, Cond.instanceMethod yX3_weightOn, Cond.selects RX3 yX3_weightOn yX3_weightOn, Cond.initialized RX3, Cond.code yX3_weightOn cX3_weightOn 3 (some .int), Cond.fieldLink RX3 11 "Backdater$Tariffs" "weights" "[[I", Cond.static yX6_isDay, Cond.code yX6_isDay cX6_isDay 1 (some .boolean), Cond.methodLink RX6 228 yX5_putRate, Cond.instanceMethod yX5_putRate, Cond.selects RX5 yX5_putRate yX5_putRate, Cond.initialized RX5, Cond.code yX5_putRate cX5_putRate 3 none, Cond.fieldLink RX5 9 "Backdater$Year" "rates" "[I", Cond.fieldLink RX5 15 "Backdater$Year" "sums" "[I"]
def wsX6_bill_r6 : List Cond := [Cond.methodLink RX6 237 yX5_sumOfPremiums, Cond.instanceMethod yX5_sumOfPremiums, Cond.selects RX5 yX5_sumOfPremiums yX5_sumOfPremiums, Cond.code yX5_sumOfPremiums cX5_sumOfPremiums 3 (some .int), Cond.methodLink RX5 22 yX5_isStart, Cond.instanceMethod yX5_isStart, Cond.selects RX5 yX5_isStart yX5_isStart, Cond.code yX5_isStart cX5_isStart 2 (some .boolean), Cond.methodLink RX5 32 yX5_premiumOfSegmentFrom, Cond.instanceMethod yX5_premiumOfSegmentFrom, Cond.selects RX5 yX5_premiumOfSegmentFrom yX5_premiumOfSegmentFrom, Cond.code yX5_premiumOfSegmentFrom cX5_premiumOfSegmentFrom 2 (some .int), Cond.methodLink RX5 25 yX5_dayBehindSegmentFrom, Cond.instanceMethod yX5_dayBehindSegmentFrom, Cond.selects RX5 yX5_dayBehindSegmentFrom yX5_dayBehindSegmentFrom, Cond.code yX5_dayBehindSegmentFrom cX5_dayBehindSegmentFrom 3 (some .int), Cond.methodLink RX5 29 yX5_chargeUpTo, Cond.instanceMethod yX5_chargeUpTo, Cond.selects RX5 yX5_chargeUpTo yX5_chargeUpTo, Cond.code yX5_chargeUpTo cX5_chargeUpTo 2 (some .int)]
def wsX6_bill : List Cond := .code yX6_bill cX6_bill 4 (some .int) :: ((wsX6_bill_r1 ++ (wsX6_bill_r2 ++ (wsX6_bill_r3 ++ (wsX6_bill_r4 ++ (wsX6_bill_r5 ++ wsX6_bill_r6))))) ++ wsX60 ++ wsX20 ++ wsJx4a65c0 ++ wsX40 ++ wsX00 ++ wsX30 ++ wsX50 ++ (vx_atS RX6 192 "java/lang/IndexOutOfBoundsException" ["java/lang/RuntimeException", "java/lang/Exception"]).filter goodWord)
def wsX6_billed_r1 : List Cond := [Cond.fieldLink RX6 177 "Backdater$Policy" "billedSoFar" "I", Cond.methodLink RX6 84 yX6_policyNumbered, Cond.instanceMethod yX6_policyNumbered, Cond.selects RX6 yX6_policyNumbered yX6_policyNumbered, Cond.initialized RX6, Cond.code yX6_policyNumbered cX6_policyNumbered 2 (some (.object "Backdater$Policy")), Cond.classLink RX6 188 "java/lang/IndexOutOfBoundsException", Cond.initialized "java/lang/IndexOutOfBoundsException", Cond.fieldLink RX6 10 "Backdater" "policies" "Ljava/util/List;", Cond.classLink RX6 61 "Backdater$Policy", Cond.methodLink RX6 48 ⟨"java/util/List", "size", "()I"⟩, Cond.selects RJx4a65c ⟨"java/util/List", "size", "()I"⟩ yJx4a65c_size_8abf5, Cond.instanceMethod yJx4a65c_size_8abf5, Cond.initialized RJx4a65c, Cond.code yJx4a65c_size_8abf5 cJx4a65c_size_8abf5 1 (some .int), Cond.fieldLink RJx4a65c 48 "java/util/ArrayList" "size" "I", Cond.methodLink RX6 127 ⟨"java/util/List", "get", "(I)Ljava/lang/Object;"⟩, Cond.selects RJx4a65c ⟨"java/util/List", "get", "(I)Ljava/lang/Object;"⟩ yJx4a65c_get_915e3, Cond.instanceMethod yJx4a65c_get_915e3, Cond.code yJx4a65c_get_915e3 cJx4a65c_get_915e3 2 (some (.object "java/lang/Object")), Cond.methodLink RJx4a65c 118 yJ15_checkIndex_7cf53, Cond.static yJ15_checkIndex_7cf53, Cond.initialized RJ15, Cond.code yJ15_checkIndex_7cf53 cJ15_checkIndex_7cf53 2 (some .int)]
def wsX6_billed_r2 : List Cond := [Cond.methodLink RJ15 105 yJ3_checkIndex_8e157, Cond.static yJ3_checkIndex_8e157, Cond.initialized RJ3, Cond.code yJ3_checkIndex_8e157 cJ3_checkIndex_8e157 3 (some .int), Cond.methodLink RJx4a65c 123 yJx4a65c_elementData_915e3, Cond.instanceMethod yJx4a65c_elementData_915e3, Cond.selects RJx4a65c yJx4a65c_elementData_915e3 yJx4a65c_elementData_915e3, Cond.code yJx4a65c_elementData_915e3 cJx4a65c_elementData_915e3 2 (some (.object "java/lang/Object")), Cond.fieldLink RJx4a65c 9 "java/util/ArrayList" "elementData" "[Ljava/lang/Object;"]
def wsX6_billed : List Cond := .code yX6_billed cX6_billed 2 (some .int) :: ((wsX6_billed_r1 ++ wsX6_billed_r2) ++ wsX20 ++ wsX60 ++ wsJx4a65c0 ++ (vx_atS RX6 192 "java/lang/IndexOutOfBoundsException" ["java/lang/RuntimeException", "java/lang/Exception"]).filter goodWord)
def wsX7_init : List Cond := .code yX7_init cX7_init 1 none :: ([.methodLink RX7 1 objectInit, .instanceMethod objectInit, .code objectInit ⟨#[0xb1]⟩ 1 none, .arrayClass .int, .fieldLink RX7 7 "BackdaterModel" "base" "[I", .fieldLink RX7 13 "BackdaterModel" "paid" "[I", .fieldLink RX7 16 "BackdaterModel" "field" "[I", .fieldLink RX7 19 "BackdaterModel" "weight" "[I", .fieldLink RX7 22 "BackdaterModel" "since" "[I", .fieldLink RX7 25 "BackdaterModel" "of" "[I", .fieldLink RX7 28 "BackdaterModel" "kind" "[I", .fieldLink RX7 31 "BackdaterModel" "which" "[I", .fieldLink RX7 34 "BackdaterModel" "from" "[I", .fieldLink RX7 37 "BackdaterModel" "number" "[I", .fieldLink RX7 40 "BackdaterModel" "told" "[I", .fieldLink RX7 43 "BackdaterModel" "taken" "[I", .fieldLink RX7 46 "BackdaterModel" "value" "[I", .arrayClass .boolean, .fieldLink RX7 49 "BackdaterModel" "covered" "[Z", .fieldLink RX7 53 "BackdaterModel" "rate" "[I", .fieldLink RX7 56 "BackdaterModel" "sum" "[I"] ++ wsX70)
def wsX7_thrown : List Cond := .code yX7_thrown cX7_thrown 1 (some .int) :: ([.fieldLink RX7 59 "BackdaterModel" "thrown" "I"] ++ wsX70)
def wsX7_isIn : List Cond := .code yX7_isIn cX7_isIn 3 (some .boolean) :: ([])
def wsX7_isDay : List Cond := .code yX7_isDay cX7_isDay 1 (some .boolean) :: ([.methodLink RX7 63 yX7_isIn, .static yX7_isIn, .initialized RX7, .code yX7_isIn cX7_isIn 3 (some .boolean)])
def wsX7_isPolicy : List Cond := .code yX7_isPolicy cX7_isPolicy 2 (some .boolean) :: ([.fieldLink RX7 67 "BackdaterModel" "policies" "I", .methodLink RX7 63 yX7_isIn, .static yX7_isIn, .initialized RX7, .code yX7_isIn cX7_isIn 3 (some .boolean)] ++ wsX70)
def wsX7_isField : List Cond := .code yX7_isField cX7_isField 1 (some .boolean) :: ([.methodLink RX7 63 yX7_isIn, .static yX7_isIn, .initialized RX7, .code yX7_isIn cX7_isIn 3 (some .boolean)])
def wsX7_open : List Cond := .code yX7_open cX7_open 2 (some .int) :: ([.fieldLink RX7 67 "BackdaterModel" "policies" "I", .fieldLink RX7 59 "BackdaterModel" "thrown" "I", .fieldLink RX7 7 "BackdaterModel" "base" "[I", .methodLink RX7 63 yX7_isIn, .static yX7_isIn, .initialized RX7, .code yX7_isIn cX7_isIn 3 (some .boolean)] ++ wsX70)
def wsX7_setWeight : List Cond := .code yX7_setWeight cX7_setWeight 4 (some .int) :: ([.fieldLink RX7 77 "BackdaterModel" "tariffs" "I", .fieldLink RX7 59 "BackdaterModel" "thrown" "I", .fieldLink RX7 16 "BackdaterModel" "field" "[I", .fieldLink RX7 19 "BackdaterModel" "weight" "[I", .fieldLink RX7 22 "BackdaterModel" "since" "[I", .methodLink RX7 70 yX7_isField, .static yX7_isField, .initialized RX7, .code yX7_isField cX7_isField 1 (some .boolean), .methodLink RX7 63 yX7_isIn, .static yX7_isIn, .code yX7_isIn cX7_isIn 3 (some .boolean), .methodLink RX7 74 yX7_isDay, .static yX7_isDay, .code yX7_isDay cX7_isDay 1 (some .boolean)] ++ wsX70)
def wsX7_pass : List Cond := .code yX7_pass cX7_pass 2 (some .int) :: ([.fieldLink RX7 59 "BackdaterModel" "thrown" "I", .fieldLink RX7 80 "BackdaterModel" "today" "I", .methodLink RX7 63 yX7_isIn, .static yX7_isIn, .initialized RX7, .code yX7_isIn cX7_isIn 3 (some .boolean)] ++ wsX70)
def wsX7_today : List Cond := .code yX7_today cX7_today 1 (some .int) :: ([.fieldLink RX7 59 "BackdaterModel" "thrown" "I", .fieldLink RX7 80 "BackdaterModel" "today" "I"] ++ wsX70)
def wsX7_tells_r1 : List Cond := [Cond.fieldLink RX7 86 "BackdaterModel" "changes" "I", Cond.fieldLink RX7 59 "BackdaterModel" "thrown" "I", Cond.fieldLink RX7 25 "BackdaterModel" "of" "[I", Cond.fieldLink RX7 28 "BackdaterModel" "kind" "[I", Cond.fieldLink RX7 31 "BackdaterModel" "which" "[I", Cond.fieldLink RX7 34 "BackdaterModel" "from" "[I", Cond.fieldLink RX7 37 "BackdaterModel" "number" "[I", Cond.fieldLink RX7 40 "BackdaterModel" "told" "[I", Cond.fieldLink RX7 80 "BackdaterModel" "today" "I", Cond.fieldLink RX7 43 "BackdaterModel" "taken" "[I", Cond.methodLink RX7 83 yX7_isPolicy, Cond.instanceMethod yX7_isPolicy, Cond.selects RX7 yX7_isPolicy yX7_isPolicy, Cond.initialized RX7, Cond.code yX7_isPolicy cX7_isPolicy 2 (some .boolean), Cond.fieldLink RX7 67 "BackdaterModel" "policies" "I", Cond.methodLink RX7 63 yX7_isIn, Cond.static yX7_isIn, Cond.code yX7_isIn cX7_isIn 3 (some .boolean), Cond.methodLink RX7 70 yX7_isField, Cond.static yX7_isField, Cond.code yX7_isField cX7_isField 1 (some .boolean), Cond.methodLink RX7 74 yX7_isDay, Cond.static yX7_isDay]
def wsX7_tells_r2 : List Cond := [Cond.code yX7_isDay cX7_isDay 1 (some .boolean)]
def wsX7_tells : List Cond := .code yX7_tells cX7_tells 7 (some .int) :: ((wsX7_tells_r1 ++ wsX7_tells_r2) ++ wsX70)
def wsX7_change_r1 : List Cond := [Cond.methodLink RX7 63 yX7_isIn, Cond.static yX7_isIn, Cond.initialized RX7, Cond.code yX7_isIn cX7_isIn 3 (some .boolean), Cond.methodLink RX7 89 yX7_tells, Cond.instanceMethod yX7_tells, Cond.selects RX7 yX7_tells yX7_tells, Cond.code yX7_tells cX7_tells 7 (some .int), Cond.fieldLink RX7 86 "BackdaterModel" "changes" "I", Cond.fieldLink RX7 59 "BackdaterModel" "thrown" "I", Cond.fieldLink RX7 25 "BackdaterModel" "of" "[I", Cond.fieldLink RX7 28 "BackdaterModel" "kind" "[I", Cond.fieldLink RX7 31 "BackdaterModel" "which" "[I", Cond.fieldLink RX7 34 "BackdaterModel" "from" "[I", Cond.fieldLink RX7 37 "BackdaterModel" "number" "[I", Cond.fieldLink RX7 40 "BackdaterModel" "told" "[I", Cond.fieldLink RX7 80 "BackdaterModel" "today" "I", Cond.fieldLink RX7 43 "BackdaterModel" "taken" "[I", Cond.methodLink RX7 83 yX7_isPolicy, Cond.instanceMethod yX7_isPolicy, Cond.selects RX7 yX7_isPolicy yX7_isPolicy, Cond.code yX7_isPolicy cX7_isPolicy 2 (some .boolean), Cond.fieldLink RX7 67 "BackdaterModel" "policies" "I", Cond.methodLink RX7 70 yX7_isField]
def wsX7_change_r2 : List Cond := [Cond.static yX7_isField, Cond.code yX7_isField cX7_isField 1 (some .boolean), Cond.methodLink RX7 74 yX7_isDay, Cond.static yX7_isDay, Cond.code yX7_isDay cX7_isDay 1 (some .boolean)]
def wsX7_change : List Cond := .code yX7_change cX7_change 5 (some .int) :: ((wsX7_change_r1 ++ wsX7_change_r2) ++ wsX70)
def wsX7_add_r1 : List Cond := [Cond.methodLink RX7 63 yX7_isIn, Cond.static yX7_isIn, Cond.initialized RX7, Cond.code yX7_isIn cX7_isIn 3 (some .boolean), Cond.methodLink RX7 89 yX7_tells, Cond.instanceMethod yX7_tells, Cond.selects RX7 yX7_tells yX7_tells, Cond.code yX7_tells cX7_tells 7 (some .int), Cond.fieldLink RX7 86 "BackdaterModel" "changes" "I", Cond.fieldLink RX7 59 "BackdaterModel" "thrown" "I", Cond.fieldLink RX7 25 "BackdaterModel" "of" "[I", Cond.fieldLink RX7 28 "BackdaterModel" "kind" "[I", Cond.fieldLink RX7 31 "BackdaterModel" "which" "[I", Cond.fieldLink RX7 34 "BackdaterModel" "from" "[I", Cond.fieldLink RX7 37 "BackdaterModel" "number" "[I", Cond.fieldLink RX7 40 "BackdaterModel" "told" "[I", Cond.fieldLink RX7 80 "BackdaterModel" "today" "I", Cond.fieldLink RX7 43 "BackdaterModel" "taken" "[I", Cond.methodLink RX7 83 yX7_isPolicy, Cond.instanceMethod yX7_isPolicy, Cond.selects RX7 yX7_isPolicy yX7_isPolicy, Cond.code yX7_isPolicy cX7_isPolicy 2 (some .boolean), Cond.fieldLink RX7 67 "BackdaterModel" "policies" "I", Cond.methodLink RX7 70 yX7_isField]
def wsX7_add_r2 : List Cond := [Cond.static yX7_isField, Cond.code yX7_isField cX7_isField 1 (some .boolean), Cond.methodLink RX7 74 yX7_isDay, Cond.static yX7_isDay, Cond.code yX7_isDay cX7_isDay 1 (some .boolean)]
def wsX7_add : List Cond := .code yX7_add cX7_add 5 (some .int) :: ((wsX7_add_r1 ++ wsX7_add_r2) ++ wsX70)
def wsX7_cancel_r1 : List Cond := [Cond.methodLink RX7 89 yX7_tells, Cond.instanceMethod yX7_tells, Cond.selects RX7 yX7_tells yX7_tells, Cond.initialized RX7, Cond.code yX7_tells cX7_tells 7 (some .int), Cond.fieldLink RX7 86 "BackdaterModel" "changes" "I", Cond.fieldLink RX7 59 "BackdaterModel" "thrown" "I", Cond.fieldLink RX7 25 "BackdaterModel" "of" "[I", Cond.fieldLink RX7 28 "BackdaterModel" "kind" "[I", Cond.fieldLink RX7 31 "BackdaterModel" "which" "[I", Cond.fieldLink RX7 34 "BackdaterModel" "from" "[I", Cond.fieldLink RX7 37 "BackdaterModel" "number" "[I", Cond.fieldLink RX7 40 "BackdaterModel" "told" "[I", Cond.fieldLink RX7 80 "BackdaterModel" "today" "I", Cond.fieldLink RX7 43 "BackdaterModel" "taken" "[I", Cond.methodLink RX7 83 yX7_isPolicy, Cond.instanceMethod yX7_isPolicy, Cond.selects RX7 yX7_isPolicy yX7_isPolicy, Cond.code yX7_isPolicy cX7_isPolicy 2 (some .boolean), Cond.fieldLink RX7 67 "BackdaterModel" "policies" "I", Cond.methodLink RX7 63 yX7_isIn, Cond.static yX7_isIn, Cond.code yX7_isIn cX7_isIn 3 (some .boolean), Cond.methodLink RX7 70 yX7_isField]
def wsX7_cancel_r2 : List Cond := [Cond.static yX7_isField, Cond.code yX7_isField cX7_isField 1 (some .boolean), Cond.methodLink RX7 74 yX7_isDay, Cond.static yX7_isDay, Cond.code yX7_isDay cX7_isDay 1 (some .boolean)]
def wsX7_cancel : List Cond := .code yX7_cancel cX7_cancel 3 (some .int) :: ((wsX7_cancel_r1 ++ wsX7_cancel_r2) ++ wsX70)
def wsX7_reinstate_r1 : List Cond := [Cond.methodLink RX7 89 yX7_tells, Cond.instanceMethod yX7_tells, Cond.selects RX7 yX7_tells yX7_tells, Cond.initialized RX7, Cond.code yX7_tells cX7_tells 7 (some .int), Cond.fieldLink RX7 86 "BackdaterModel" "changes" "I", Cond.fieldLink RX7 59 "BackdaterModel" "thrown" "I", Cond.fieldLink RX7 25 "BackdaterModel" "of" "[I", Cond.fieldLink RX7 28 "BackdaterModel" "kind" "[I", Cond.fieldLink RX7 31 "BackdaterModel" "which" "[I", Cond.fieldLink RX7 34 "BackdaterModel" "from" "[I", Cond.fieldLink RX7 37 "BackdaterModel" "number" "[I", Cond.fieldLink RX7 40 "BackdaterModel" "told" "[I", Cond.fieldLink RX7 80 "BackdaterModel" "today" "I", Cond.fieldLink RX7 43 "BackdaterModel" "taken" "[I", Cond.methodLink RX7 83 yX7_isPolicy, Cond.instanceMethod yX7_isPolicy, Cond.selects RX7 yX7_isPolicy yX7_isPolicy, Cond.code yX7_isPolicy cX7_isPolicy 2 (some .boolean), Cond.fieldLink RX7 67 "BackdaterModel" "policies" "I", Cond.methodLink RX7 63 yX7_isIn, Cond.static yX7_isIn, Cond.code yX7_isIn cX7_isIn 3 (some .boolean), Cond.methodLink RX7 70 yX7_isField]
def wsX7_reinstate_r2 : List Cond := [Cond.static yX7_isField, Cond.code yX7_isField cX7_isField 1 (some .boolean), Cond.methodLink RX7 74 yX7_isDay, Cond.static yX7_isDay, Cond.code yX7_isDay cX7_isDay 1 (some .boolean)]
def wsX7_reinstate : List Cond := .code yX7_reinstate cX7_reinstate 3 (some .int) :: ((wsX7_reinstate_r1 ++ wsX7_reinstate_r2) ++ wsX70)
def wsX7_isChange : List Cond := .code yX7_isChange cX7_isChange 2 (some .boolean) :: ([.fieldLink RX7 86 "BackdaterModel" "changes" "I", .fieldLink RX7 59 "BackdaterModel" "thrown" "I", .methodLink RX7 63 yX7_isIn, .static yX7_isIn, .initialized RX7, .code yX7_isIn cX7_isIn 3 (some .boolean)] ++ wsX70)
def wsX7_takeBack : List Cond := .code yX7_takeBack cX7_takeBack 2 (some .int) :: ([.fieldLink RX7 43 "BackdaterModel" "taken" "[I", .fieldLink RX7 59 "BackdaterModel" "thrown" "I", .fieldLink RX7 80 "BackdaterModel" "today" "I", .fieldLink RX7 40 "BackdaterModel" "told" "[I", .methodLink RX7 93 yX7_isChange, .instanceMethod yX7_isChange, .selects RX7 yX7_isChange yX7_isChange, .initialized RX7, .code yX7_isChange cX7_isChange 2 (some .boolean), .fieldLink RX7 86 "BackdaterModel" "changes" "I", .methodLink RX7 63 yX7_isIn, .static yX7_isIn, .code yX7_isIn cX7_isIn 3 (some .boolean)] ++ wsX70)
def wsX7_changes : List Cond := .code yX7_changes cX7_changes 1 (some .int) :: ([.fieldLink RX7 59 "BackdaterModel" "thrown" "I", .fieldLink RX7 86 "BackdaterModel" "changes" "I"] ++ wsX70)
def wsX7_isKnown : List Cond := .code yX7_isKnown cX7_isKnown 3 (some .boolean) :: ([.fieldLink RX7 40 "BackdaterModel" "told" "[I", .fieldLink RX7 43 "BackdaterModel" "taken" "[I"] ++ wsX70)
def wsX7_laidAnew : List Cond := .code yX7_laidAnew cX7_laidAnew 5 (some .int) :: ([.fieldLink RX7 25 "BackdaterModel" "of" "[I", .fieldLink RX7 80 "BackdaterModel" "today" "I", .fieldLink RX7 34 "BackdaterModel" "from" "[I", .methodLink RX7 93 yX7_isChange, .instanceMethod yX7_isChange, .selects RX7 yX7_isChange yX7_isChange, .initialized RX7, .code yX7_isChange cX7_isChange 2 (some .boolean), .fieldLink RX7 86 "BackdaterModel" "changes" "I", .fieldLink RX7 59 "BackdaterModel" "thrown" "I", .methodLink RX7 63 yX7_isIn, .static yX7_isIn, .code yX7_isIn cX7_isIn 3 (some .boolean), .methodLink RX7 96 yX7_isKnown, .instanceMethod yX7_isKnown, .selects RX7 yX7_isKnown yX7_isKnown, .code yX7_isKnown cX7_isKnown 3 (some .boolean), .fieldLink RX7 40 "BackdaterModel" "told" "[I", .fieldLink RX7 43 "BackdaterModel" "taken" "[I"] ++ wsX70)
def wsX7_weighs : List Cond := .code yX7_weighs cX7_weighs 6 (some .int) :: ([.fieldLink RX7 77 "BackdaterModel" "tariffs" "I", .fieldLink RX7 16 "BackdaterModel" "field" "[I", .fieldLink RX7 22 "BackdaterModel" "since" "[I", .fieldLink RX7 19 "BackdaterModel" "weight" "[I"] ++ wsX70)
def wsX7_bounded : List Cond := .code yX7_bounded cX7_bounded 1 (some .int) :: ([])
def wsX7_goes_r1 : List Cond := [Cond.fieldLink RX7 56 "BackdaterModel" "sum" "[I", Cond.fieldLink RX7 46 "BackdaterModel" "value" "[I", Cond.fieldLink RX7 86 "BackdaterModel" "changes" "I", Cond.fieldLink RX7 25 "BackdaterModel" "of" "[I", Cond.fieldLink RX7 34 "BackdaterModel" "from" "[I", Cond.fieldLink RX7 31 "BackdaterModel" "which" "[I", Cond.fieldLink RX7 28 "BackdaterModel" "kind" "[I", Cond.fieldLink RX7 37 "BackdaterModel" "number" "[I", Cond.fieldLink RX7 49 "BackdaterModel" "covered" "[Z", Cond.fieldLink RX7 7 "BackdaterModel" "base" "[I", Cond.fieldLink RX7 53 "BackdaterModel" "rate" "[I", Cond.methodLink RX7 96 yX7_isKnown, Cond.instanceMethod yX7_isKnown, Cond.selects RX7 yX7_isKnown yX7_isKnown, Cond.initialized RX7, Cond.code yX7_isKnown cX7_isKnown 3 (some .boolean), Cond.fieldLink RX7 40 "BackdaterModel" "told" "[I", Cond.fieldLink RX7 43 "BackdaterModel" "taken" "[I", Cond.methodLink RX7 100 yX7_bounded, Cond.static yX7_bounded, Cond.code yX7_bounded cX7_bounded 1 (some .int), Cond.methodLink RX7 104 yX7_weighs, Cond.instanceMethod yX7_weighs, Cond.selects RX7 yX7_weighs yX7_weighs]
def wsX7_goes_r2 : List Cond := [Cond.code yX7_weighs cX7_weighs 6 (some .int), Cond.fieldLink RX7 77 "BackdaterModel" "tariffs" "I", Cond.fieldLink RX7 16 "BackdaterModel" "field" "[I", Cond.fieldLink RX7 22 "BackdaterModel" "since" "[I", Cond.fieldLink RX7 19 "BackdaterModel" "weight" "[I"]
def wsX7_goes : List Cond := .code yX7_goes cX7_goes 7 none :: ((wsX7_goes_r1 ++ wsX7_goes_r2) ++ wsX70)
def wsX7_looks_r1 : List Cond := [Cond.fieldLink RX7 80 "BackdaterModel" "today" "I", Cond.fieldLink RX7 59 "BackdaterModel" "thrown" "I", Cond.methodLink RX7 83 yX7_isPolicy, Cond.instanceMethod yX7_isPolicy, Cond.selects RX7 yX7_isPolicy yX7_isPolicy, Cond.initialized RX7, Cond.code yX7_isPolicy cX7_isPolicy 2 (some .boolean), Cond.fieldLink RX7 67 "BackdaterModel" "policies" "I", Cond.methodLink RX7 63 yX7_isIn, Cond.static yX7_isIn, Cond.code yX7_isIn cX7_isIn 3 (some .boolean), Cond.methodLink RX7 70 yX7_isField, Cond.static yX7_isField, Cond.code yX7_isField cX7_isField 1 (some .boolean), Cond.methodLink RX7 74 yX7_isDay, Cond.static yX7_isDay, Cond.code yX7_isDay cX7_isDay 1 (some .boolean), Cond.methodLink RX7 108 yX7_goes, Cond.instanceMethod yX7_goes, Cond.selects RX7 yX7_goes yX7_goes, Cond.code yX7_goes cX7_goes 7 none, Cond.fieldLink RX7 56 "BackdaterModel" "sum" "[I", Cond.fieldLink RX7 46 "BackdaterModel" "value" "[I", Cond.fieldLink RX7 86 "BackdaterModel" "changes" "I"]
def wsX7_looks_r2 : List Cond := [Cond.fieldLink RX7 25 "BackdaterModel" "of" "[I", Cond.fieldLink RX7 34 "BackdaterModel" "from" "[I", Cond.fieldLink RX7 31 "BackdaterModel" "which" "[I", Cond.fieldLink RX7 28 "BackdaterModel" "kind" "[I", Cond.fieldLink RX7 37 "BackdaterModel" "number" "[I", Cond.fieldLink RX7 49 "BackdaterModel" "covered" "[Z", Cond.fieldLink RX7 7 "BackdaterModel" "base" "[I", Cond.fieldLink RX7 53 "BackdaterModel" "rate" "[I", Cond.methodLink RX7 96 yX7_isKnown, Cond.instanceMethod yX7_isKnown, Cond.selects RX7 yX7_isKnown yX7_isKnown, Cond.code yX7_isKnown cX7_isKnown 3 (some .boolean), Cond.fieldLink RX7 40 "BackdaterModel" "told" "[I", Cond.fieldLink RX7 43 "BackdaterModel" "taken" "[I", Cond.methodLink RX7 100 yX7_bounded, Cond.static yX7_bounded, Cond.code yX7_bounded cX7_bounded 1 (some .int), Cond.methodLink RX7 104 yX7_weighs, Cond.instanceMethod yX7_weighs, Cond.selects RX7 yX7_weighs yX7_weighs, Cond.code yX7_weighs cX7_weighs 6 (some .int), Cond.fieldLink RX7 77 "BackdaterModel" "tariffs" "I", Cond.fieldLink RX7 16 "BackdaterModel" "field" "[I", Cond.fieldLink RX7 22 "BackdaterModel" "since" "[I"]
def wsX7_looks_r3 : List Cond := [Cond.fieldLink RX7 19 "BackdaterModel" "weight" "[I"]
def wsX7_looks : List Cond := .code yX7_looks cX7_looks 5 (some .boolean) :: ((wsX7_looks_r1 ++ (wsX7_looks_r2 ++ wsX7_looks_r3)) ++ wsX70)
def wsX7_value_r1 : List Cond := [Cond.fieldLink RX7 46 "BackdaterModel" "value" "[I", Cond.methodLink RX7 112 yX7_looks, Cond.instanceMethod yX7_looks, Cond.selects RX7 yX7_looks yX7_looks, Cond.initialized RX7, Cond.code yX7_looks cX7_looks 5 (some .boolean), Cond.fieldLink RX7 80 "BackdaterModel" "today" "I", Cond.fieldLink RX7 59 "BackdaterModel" "thrown" "I", Cond.methodLink RX7 83 yX7_isPolicy, Cond.instanceMethod yX7_isPolicy, Cond.selects RX7 yX7_isPolicy yX7_isPolicy, Cond.code yX7_isPolicy cX7_isPolicy 2 (some .boolean), Cond.fieldLink RX7 67 "BackdaterModel" "policies" "I", Cond.methodLink RX7 63 yX7_isIn, Cond.static yX7_isIn, Cond.code yX7_isIn cX7_isIn 3 (some .boolean), Cond.methodLink RX7 70 yX7_isField, Cond.static yX7_isField, Cond.code yX7_isField cX7_isField 1 (some .boolean), Cond.methodLink RX7 74 yX7_isDay, Cond.static yX7_isDay, Cond.code yX7_isDay cX7_isDay 1 (some .boolean), Cond.methodLink RX7 108 yX7_goes, Cond.instanceMethod yX7_goes]
def wsX7_value_r2 : List Cond := [Cond.selects RX7 yX7_goes yX7_goes, Cond.code yX7_goes cX7_goes 7 none, Cond.fieldLink RX7 56 "BackdaterModel" "sum" "[I", Cond.fieldLink RX7 86 "BackdaterModel" "changes" "I", Cond.fieldLink RX7 25 "BackdaterModel" "of" "[I", Cond.fieldLink RX7 34 "BackdaterModel" "from" "[I", Cond.fieldLink RX7 31 "BackdaterModel" "which" "[I", Cond.fieldLink RX7 28 "BackdaterModel" "kind" "[I", Cond.fieldLink RX7 37 "BackdaterModel" "number" "[I", Cond.fieldLink RX7 49 "BackdaterModel" "covered" "[Z", Cond.fieldLink RX7 7 "BackdaterModel" "base" "[I", Cond.fieldLink RX7 53 "BackdaterModel" "rate" "[I", Cond.methodLink RX7 96 yX7_isKnown, Cond.instanceMethod yX7_isKnown, Cond.selects RX7 yX7_isKnown yX7_isKnown, Cond.code yX7_isKnown cX7_isKnown 3 (some .boolean), Cond.fieldLink RX7 40 "BackdaterModel" "told" "[I", Cond.fieldLink RX7 43 "BackdaterModel" "taken" "[I", Cond.methodLink RX7 100 yX7_bounded, Cond.static yX7_bounded, Cond.code yX7_bounded cX7_bounded 1 (some .int), Cond.methodLink RX7 104 yX7_weighs, Cond.instanceMethod yX7_weighs, Cond.selects RX7 yX7_weighs yX7_weighs]
def wsX7_value_r3 : List Cond := [Cond.code yX7_weighs cX7_weighs 6 (some .int), Cond.fieldLink RX7 77 "BackdaterModel" "tariffs" "I", Cond.fieldLink RX7 16 "BackdaterModel" "field" "[I", Cond.fieldLink RX7 22 "BackdaterModel" "since" "[I", Cond.fieldLink RX7 19 "BackdaterModel" "weight" "[I"]
def wsX7_value : List Cond := .code yX7_value cX7_value 5 (some .int) :: ((wsX7_value_r1 ++ (wsX7_value_r2 ++ wsX7_value_r3)) ++ wsX70)
def wsX7_isCovered_r1 : List Cond := [Cond.fieldLink RX7 49 "BackdaterModel" "covered" "[Z", Cond.methodLink RX7 112 yX7_looks, Cond.instanceMethod yX7_looks, Cond.selects RX7 yX7_looks yX7_looks, Cond.initialized RX7, Cond.code yX7_looks cX7_looks 5 (some .boolean), Cond.fieldLink RX7 80 "BackdaterModel" "today" "I", Cond.fieldLink RX7 59 "BackdaterModel" "thrown" "I", Cond.methodLink RX7 83 yX7_isPolicy, Cond.instanceMethod yX7_isPolicy, Cond.selects RX7 yX7_isPolicy yX7_isPolicy, Cond.code yX7_isPolicy cX7_isPolicy 2 (some .boolean), Cond.fieldLink RX7 67 "BackdaterModel" "policies" "I", Cond.methodLink RX7 63 yX7_isIn, Cond.static yX7_isIn, Cond.code yX7_isIn cX7_isIn 3 (some .boolean), Cond.methodLink RX7 70 yX7_isField, Cond.static yX7_isField, Cond.code yX7_isField cX7_isField 1 (some .boolean), Cond.methodLink RX7 74 yX7_isDay, Cond.static yX7_isDay, Cond.code yX7_isDay cX7_isDay 1 (some .boolean), Cond.methodLink RX7 108 yX7_goes, Cond.instanceMethod yX7_goes]
def wsX7_isCovered_r2 : List Cond := [Cond.selects RX7 yX7_goes yX7_goes, Cond.code yX7_goes cX7_goes 7 none, Cond.fieldLink RX7 56 "BackdaterModel" "sum" "[I", Cond.fieldLink RX7 46 "BackdaterModel" "value" "[I", Cond.fieldLink RX7 86 "BackdaterModel" "changes" "I", Cond.fieldLink RX7 25 "BackdaterModel" "of" "[I", Cond.fieldLink RX7 34 "BackdaterModel" "from" "[I", Cond.fieldLink RX7 31 "BackdaterModel" "which" "[I", Cond.fieldLink RX7 28 "BackdaterModel" "kind" "[I", Cond.fieldLink RX7 37 "BackdaterModel" "number" "[I", Cond.fieldLink RX7 7 "BackdaterModel" "base" "[I", Cond.fieldLink RX7 53 "BackdaterModel" "rate" "[I", Cond.methodLink RX7 96 yX7_isKnown, Cond.instanceMethod yX7_isKnown, Cond.selects RX7 yX7_isKnown yX7_isKnown, Cond.code yX7_isKnown cX7_isKnown 3 (some .boolean), Cond.fieldLink RX7 40 "BackdaterModel" "told" "[I", Cond.fieldLink RX7 43 "BackdaterModel" "taken" "[I", Cond.methodLink RX7 100 yX7_bounded, Cond.static yX7_bounded, Cond.code yX7_bounded cX7_bounded 1 (some .int), Cond.methodLink RX7 104 yX7_weighs, Cond.instanceMethod yX7_weighs, Cond.selects RX7 yX7_weighs yX7_weighs]
def wsX7_isCovered_r3 : List Cond := [Cond.code yX7_weighs cX7_weighs 6 (some .int), Cond.fieldLink RX7 77 "BackdaterModel" "tariffs" "I", Cond.fieldLink RX7 16 "BackdaterModel" "field" "[I", Cond.fieldLink RX7 22 "BackdaterModel" "since" "[I", Cond.fieldLink RX7 19 "BackdaterModel" "weight" "[I"]
def wsX7_isCovered : List Cond := .code yX7_isCovered cX7_isCovered 4 (some .boolean) :: ((wsX7_isCovered_r1 ++ (wsX7_isCovered_r2 ++ wsX7_isCovered_r3)) ++ wsX70)
def wsX7_rate_r1 : List Cond := [Cond.fieldLink RX7 53 "BackdaterModel" "rate" "[I", Cond.methodLink RX7 112 yX7_looks, Cond.instanceMethod yX7_looks, Cond.selects RX7 yX7_looks yX7_looks, Cond.initialized RX7, Cond.code yX7_looks cX7_looks 5 (some .boolean), Cond.fieldLink RX7 80 "BackdaterModel" "today" "I", Cond.fieldLink RX7 59 "BackdaterModel" "thrown" "I", Cond.methodLink RX7 83 yX7_isPolicy, Cond.instanceMethod yX7_isPolicy, Cond.selects RX7 yX7_isPolicy yX7_isPolicy, Cond.code yX7_isPolicy cX7_isPolicy 2 (some .boolean), Cond.fieldLink RX7 67 "BackdaterModel" "policies" "I", Cond.methodLink RX7 63 yX7_isIn, Cond.static yX7_isIn, Cond.code yX7_isIn cX7_isIn 3 (some .boolean), Cond.methodLink RX7 70 yX7_isField, Cond.static yX7_isField, Cond.code yX7_isField cX7_isField 1 (some .boolean), Cond.methodLink RX7 74 yX7_isDay, Cond.static yX7_isDay, Cond.code yX7_isDay cX7_isDay 1 (some .boolean), Cond.methodLink RX7 108 yX7_goes, Cond.instanceMethod yX7_goes]
def wsX7_rate_r2 : List Cond := [Cond.selects RX7 yX7_goes yX7_goes, Cond.code yX7_goes cX7_goes 7 none, Cond.fieldLink RX7 56 "BackdaterModel" "sum" "[I", Cond.fieldLink RX7 46 "BackdaterModel" "value" "[I", Cond.fieldLink RX7 86 "BackdaterModel" "changes" "I", Cond.fieldLink RX7 25 "BackdaterModel" "of" "[I", Cond.fieldLink RX7 34 "BackdaterModel" "from" "[I", Cond.fieldLink RX7 31 "BackdaterModel" "which" "[I", Cond.fieldLink RX7 28 "BackdaterModel" "kind" "[I", Cond.fieldLink RX7 37 "BackdaterModel" "number" "[I", Cond.fieldLink RX7 49 "BackdaterModel" "covered" "[Z", Cond.fieldLink RX7 7 "BackdaterModel" "base" "[I", Cond.methodLink RX7 96 yX7_isKnown, Cond.instanceMethod yX7_isKnown, Cond.selects RX7 yX7_isKnown yX7_isKnown, Cond.code yX7_isKnown cX7_isKnown 3 (some .boolean), Cond.fieldLink RX7 40 "BackdaterModel" "told" "[I", Cond.fieldLink RX7 43 "BackdaterModel" "taken" "[I", Cond.methodLink RX7 100 yX7_bounded, Cond.static yX7_bounded, Cond.code yX7_bounded cX7_bounded 1 (some .int), Cond.methodLink RX7 104 yX7_weighs, Cond.instanceMethod yX7_weighs, Cond.selects RX7 yX7_weighs yX7_weighs]
def wsX7_rate_r3 : List Cond := [Cond.code yX7_weighs cX7_weighs 6 (some .int), Cond.fieldLink RX7 77 "BackdaterModel" "tariffs" "I", Cond.fieldLink RX7 16 "BackdaterModel" "field" "[I", Cond.fieldLink RX7 22 "BackdaterModel" "since" "[I", Cond.fieldLink RX7 19 "BackdaterModel" "weight" "[I"]
def wsX7_rate : List Cond := .code yX7_rate cX7_rate 4 (some .int) :: ((wsX7_rate_r1 ++ (wsX7_rate_r2 ++ wsX7_rate_r3)) ++ wsX70)
def wsX7_begins : List Cond := .code yX7_begins cX7_begins 2 (some .boolean) :: ([.fieldLink RX7 53 "BackdaterModel" "rate" "[I"] ++ wsX70)
def wsX7_segments_r1 : List Cond := [Cond.methodLink RX7 112 yX7_looks, Cond.instanceMethod yX7_looks, Cond.selects RX7 yX7_looks yX7_looks, Cond.initialized RX7, Cond.code yX7_looks cX7_looks 5 (some .boolean), Cond.fieldLink RX7 80 "BackdaterModel" "today" "I", Cond.fieldLink RX7 59 "BackdaterModel" "thrown" "I", Cond.methodLink RX7 83 yX7_isPolicy, Cond.instanceMethod yX7_isPolicy, Cond.selects RX7 yX7_isPolicy yX7_isPolicy, Cond.code yX7_isPolicy cX7_isPolicy 2 (some .boolean), Cond.fieldLink RX7 67 "BackdaterModel" "policies" "I", Cond.methodLink RX7 63 yX7_isIn, Cond.static yX7_isIn, Cond.code yX7_isIn cX7_isIn 3 (some .boolean), Cond.methodLink RX7 70 yX7_isField, Cond.static yX7_isField, Cond.code yX7_isField cX7_isField 1 (some .boolean), Cond.methodLink RX7 74 yX7_isDay, Cond.static yX7_isDay, Cond.code yX7_isDay cX7_isDay 1 (some .boolean), Cond.methodLink RX7 108 yX7_goes, Cond.instanceMethod yX7_goes, Cond.selects RX7 yX7_goes yX7_goes]
def wsX7_segments_r2 : List Cond := [Cond.code yX7_goes cX7_goes 7 none, Cond.fieldLink RX7 56 "BackdaterModel" "sum" "[I", Cond.fieldLink RX7 46 "BackdaterModel" "value" "[I", Cond.fieldLink RX7 86 "BackdaterModel" "changes" "I", Cond.fieldLink RX7 25 "BackdaterModel" "of" "[I", Cond.fieldLink RX7 34 "BackdaterModel" "from" "[I", Cond.fieldLink RX7 31 "BackdaterModel" "which" "[I", Cond.fieldLink RX7 28 "BackdaterModel" "kind" "[I", Cond.fieldLink RX7 37 "BackdaterModel" "number" "[I", Cond.fieldLink RX7 49 "BackdaterModel" "covered" "[Z", Cond.fieldLink RX7 7 "BackdaterModel" "base" "[I", Cond.fieldLink RX7 53 "BackdaterModel" "rate" "[I", Cond.methodLink RX7 96 yX7_isKnown, Cond.instanceMethod yX7_isKnown, Cond.selects RX7 yX7_isKnown yX7_isKnown, Cond.code yX7_isKnown cX7_isKnown 3 (some .boolean), Cond.fieldLink RX7 40 "BackdaterModel" "told" "[I", Cond.fieldLink RX7 43 "BackdaterModel" "taken" "[I", Cond.methodLink RX7 100 yX7_bounded, Cond.static yX7_bounded, Cond.code yX7_bounded cX7_bounded 1 (some .int), Cond.methodLink RX7 104 yX7_weighs, Cond.instanceMethod yX7_weighs, Cond.selects RX7 yX7_weighs yX7_weighs]
def wsX7_segments_r3 : List Cond := [Cond.code yX7_weighs cX7_weighs 6 (some .int), Cond.fieldLink RX7 77 "BackdaterModel" "tariffs" "I", Cond.fieldLink RX7 16 "BackdaterModel" "field" "[I", Cond.fieldLink RX7 22 "BackdaterModel" "since" "[I", Cond.fieldLink RX7 19 "BackdaterModel" "weight" "[I", Cond.methodLink RX7 116 yX7_begins, Cond.instanceMethod yX7_begins, Cond.selects RX7 yX7_begins yX7_begins, Cond.code yX7_begins cX7_begins 2 (some .boolean)]
def wsX7_segments : List Cond := .code yX7_segments cX7_segments 6 (some .int) :: ((wsX7_segments_r1 ++ (wsX7_segments_r2 ++ wsX7_segments_r3)) ++ wsX70)
def wsX7_found_r1 : List Cond := [Cond.fieldLink RX7 80 "BackdaterModel" "today" "I", Cond.fieldLink RX7 59 "BackdaterModel" "thrown" "I", Cond.methodLink RX7 63 yX7_isIn, Cond.static yX7_isIn, Cond.initialized RX7, Cond.code yX7_isIn cX7_isIn 3 (some .boolean), Cond.methodLink RX7 112 yX7_looks, Cond.instanceMethod yX7_looks, Cond.selects RX7 yX7_looks yX7_looks, Cond.code yX7_looks cX7_looks 5 (some .boolean), Cond.methodLink RX7 83 yX7_isPolicy, Cond.instanceMethod yX7_isPolicy, Cond.selects RX7 yX7_isPolicy yX7_isPolicy, Cond.code yX7_isPolicy cX7_isPolicy 2 (some .boolean), Cond.fieldLink RX7 67 "BackdaterModel" "policies" "I", Cond.methodLink RX7 70 yX7_isField, Cond.static yX7_isField, Cond.code yX7_isField cX7_isField 1 (some .boolean), Cond.methodLink RX7 74 yX7_isDay, Cond.static yX7_isDay, Cond.code yX7_isDay cX7_isDay 1 (some .boolean), Cond.methodLink RX7 108 yX7_goes, Cond.instanceMethod yX7_goes, Cond.selects RX7 yX7_goes yX7_goes]
def wsX7_found_r2 : List Cond := [Cond.code yX7_goes cX7_goes 7 none, Cond.fieldLink RX7 56 "BackdaterModel" "sum" "[I", Cond.fieldLink RX7 46 "BackdaterModel" "value" "[I", Cond.fieldLink RX7 86 "BackdaterModel" "changes" "I", Cond.fieldLink RX7 25 "BackdaterModel" "of" "[I", Cond.fieldLink RX7 34 "BackdaterModel" "from" "[I", Cond.fieldLink RX7 31 "BackdaterModel" "which" "[I", Cond.fieldLink RX7 28 "BackdaterModel" "kind" "[I", Cond.fieldLink RX7 37 "BackdaterModel" "number" "[I", Cond.fieldLink RX7 49 "BackdaterModel" "covered" "[Z", Cond.fieldLink RX7 7 "BackdaterModel" "base" "[I", Cond.fieldLink RX7 53 "BackdaterModel" "rate" "[I", Cond.methodLink RX7 96 yX7_isKnown, Cond.instanceMethod yX7_isKnown, Cond.selects RX7 yX7_isKnown yX7_isKnown, Cond.code yX7_isKnown cX7_isKnown 3 (some .boolean), Cond.fieldLink RX7 40 "BackdaterModel" "told" "[I", Cond.fieldLink RX7 43 "BackdaterModel" "taken" "[I", Cond.methodLink RX7 100 yX7_bounded, Cond.static yX7_bounded, Cond.code yX7_bounded cX7_bounded 1 (some .int), Cond.methodLink RX7 104 yX7_weighs, Cond.instanceMethod yX7_weighs, Cond.selects RX7 yX7_weighs yX7_weighs]
def wsX7_found_r3 : List Cond := [Cond.code yX7_weighs cX7_weighs 6 (some .int), Cond.fieldLink RX7 77 "BackdaterModel" "tariffs" "I", Cond.fieldLink RX7 16 "BackdaterModel" "field" "[I", Cond.fieldLink RX7 22 "BackdaterModel" "since" "[I", Cond.fieldLink RX7 19 "BackdaterModel" "weight" "[I", Cond.methodLink RX7 116 yX7_begins, Cond.instanceMethod yX7_begins, Cond.selects RX7 yX7_begins yX7_begins, Cond.code yX7_begins cX7_begins 2 (some .boolean)]
def wsX7_found : List Cond := .code yX7_found cX7_found 9 (some .int) :: ((wsX7_found_r1 ++ (wsX7_found_r2 ++ wsX7_found_r3)) ++ wsX70)
def wsX7_segmentStart_r1 : List Cond := [Cond.methodLink RX7 119 yX7_found, Cond.instanceMethod yX7_found, Cond.selects RX7 yX7_found yX7_found, Cond.initialized RX7, Cond.code yX7_found cX7_found 9 (some .int), Cond.fieldLink RX7 80 "BackdaterModel" "today" "I", Cond.fieldLink RX7 59 "BackdaterModel" "thrown" "I", Cond.methodLink RX7 63 yX7_isIn, Cond.static yX7_isIn, Cond.code yX7_isIn cX7_isIn 3 (some .boolean), Cond.methodLink RX7 112 yX7_looks, Cond.instanceMethod yX7_looks, Cond.selects RX7 yX7_looks yX7_looks, Cond.code yX7_looks cX7_looks 5 (some .boolean), Cond.methodLink RX7 83 yX7_isPolicy, Cond.instanceMethod yX7_isPolicy, Cond.selects RX7 yX7_isPolicy yX7_isPolicy, Cond.code yX7_isPolicy cX7_isPolicy 2 (some .boolean), Cond.fieldLink RX7 67 "BackdaterModel" "policies" "I", Cond.methodLink RX7 70 yX7_isField, Cond.static yX7_isField, Cond.code yX7_isField cX7_isField 1 (some .boolean), Cond.methodLink RX7 74 yX7_isDay, Cond.static yX7_isDay]
def wsX7_segmentStart_r2 : List Cond := [Cond.code yX7_isDay cX7_isDay 1 (some .boolean), Cond.methodLink RX7 108 yX7_goes, Cond.instanceMethod yX7_goes, Cond.selects RX7 yX7_goes yX7_goes, Cond.code yX7_goes cX7_goes 7 none, Cond.fieldLink RX7 56 "BackdaterModel" "sum" "[I", Cond.fieldLink RX7 46 "BackdaterModel" "value" "[I", Cond.fieldLink RX7 86 "BackdaterModel" "changes" "I", Cond.fieldLink RX7 25 "BackdaterModel" "of" "[I", Cond.fieldLink RX7 34 "BackdaterModel" "from" "[I", Cond.fieldLink RX7 31 "BackdaterModel" "which" "[I", Cond.fieldLink RX7 28 "BackdaterModel" "kind" "[I", Cond.fieldLink RX7 37 "BackdaterModel" "number" "[I", Cond.fieldLink RX7 49 "BackdaterModel" "covered" "[Z", Cond.fieldLink RX7 7 "BackdaterModel" "base" "[I", Cond.fieldLink RX7 53 "BackdaterModel" "rate" "[I", Cond.methodLink RX7 96 yX7_isKnown, Cond.instanceMethod yX7_isKnown, Cond.selects RX7 yX7_isKnown yX7_isKnown, Cond.code yX7_isKnown cX7_isKnown 3 (some .boolean), Cond.fieldLink RX7 40 "BackdaterModel" "told" "[I", Cond.fieldLink RX7 43 "BackdaterModel" "taken" "[I", Cond.methodLink RX7 100 yX7_bounded, Cond.static yX7_bounded]
def wsX7_segmentStart_r3 : List Cond := [Cond.code yX7_bounded cX7_bounded 1 (some .int), Cond.methodLink RX7 104 yX7_weighs, Cond.instanceMethod yX7_weighs, Cond.selects RX7 yX7_weighs yX7_weighs, Cond.code yX7_weighs cX7_weighs 6 (some .int), Cond.fieldLink RX7 77 "BackdaterModel" "tariffs" "I", Cond.fieldLink RX7 16 "BackdaterModel" "field" "[I", Cond.fieldLink RX7 22 "BackdaterModel" "since" "[I", Cond.fieldLink RX7 19 "BackdaterModel" "weight" "[I", Cond.methodLink RX7 116 yX7_begins, Cond.instanceMethod yX7_begins, Cond.selects RX7 yX7_begins yX7_begins, Cond.code yX7_begins cX7_begins 2 (some .boolean)]
def wsX7_segmentStart : List Cond := .code yX7_segmentStart cX7_segmentStart 5 (some .int) :: ((wsX7_segmentStart_r1 ++ (wsX7_segmentStart_r2 ++ wsX7_segmentStart_r3)) ++ wsX70)
def wsX7_charge : List Cond := .code yX7_charge cX7_charge 2 (some .int) :: ([.fieldLink RX7 56 "BackdaterModel" "sum" "[I"] ++ wsX70)
def wsX7_segmentPremium_r1 : List Cond := [Cond.fieldLink RX7 53 "BackdaterModel" "rate" "[I", Cond.methodLink RX7 119 yX7_found, Cond.instanceMethod yX7_found, Cond.selects RX7 yX7_found yX7_found, Cond.initialized RX7, Cond.code yX7_found cX7_found 9 (some .int), Cond.fieldLink RX7 80 "BackdaterModel" "today" "I", Cond.fieldLink RX7 59 "BackdaterModel" "thrown" "I", Cond.methodLink RX7 63 yX7_isIn, Cond.static yX7_isIn, Cond.code yX7_isIn cX7_isIn 3 (some .boolean), Cond.methodLink RX7 112 yX7_looks, Cond.instanceMethod yX7_looks, Cond.selects RX7 yX7_looks yX7_looks, Cond.code yX7_looks cX7_looks 5 (some .boolean), Cond.methodLink RX7 83 yX7_isPolicy, Cond.instanceMethod yX7_isPolicy, Cond.selects RX7 yX7_isPolicy yX7_isPolicy, Cond.code yX7_isPolicy cX7_isPolicy 2 (some .boolean), Cond.fieldLink RX7 67 "BackdaterModel" "policies" "I", Cond.methodLink RX7 70 yX7_isField, Cond.static yX7_isField, Cond.code yX7_isField cX7_isField 1 (some .boolean), Cond.methodLink RX7 74 yX7_isDay]
def wsX7_segmentPremium_r2 : List Cond := [Cond.static yX7_isDay, Cond.code yX7_isDay cX7_isDay 1 (some .boolean), Cond.methodLink RX7 108 yX7_goes, Cond.instanceMethod yX7_goes, Cond.selects RX7 yX7_goes yX7_goes, Cond.code yX7_goes cX7_goes 7 none, Cond.fieldLink RX7 56 "BackdaterModel" "sum" "[I", Cond.fieldLink RX7 46 "BackdaterModel" "value" "[I", Cond.fieldLink RX7 86 "BackdaterModel" "changes" "I", Cond.fieldLink RX7 25 "BackdaterModel" "of" "[I", Cond.fieldLink RX7 34 "BackdaterModel" "from" "[I", Cond.fieldLink RX7 31 "BackdaterModel" "which" "[I", Cond.fieldLink RX7 28 "BackdaterModel" "kind" "[I", Cond.fieldLink RX7 37 "BackdaterModel" "number" "[I", Cond.fieldLink RX7 49 "BackdaterModel" "covered" "[Z", Cond.fieldLink RX7 7 "BackdaterModel" "base" "[I", Cond.methodLink RX7 96 yX7_isKnown, Cond.instanceMethod yX7_isKnown, Cond.selects RX7 yX7_isKnown yX7_isKnown, Cond.code yX7_isKnown cX7_isKnown 3 (some .boolean), Cond.fieldLink RX7 40 "BackdaterModel" "told" "[I", Cond.fieldLink RX7 43 "BackdaterModel" "taken" "[I", Cond.methodLink RX7 100 yX7_bounded, Cond.static yX7_bounded]
def wsX7_segmentPremium_r3 : List Cond := [Cond.code yX7_bounded cX7_bounded 1 (some .int), Cond.methodLink RX7 104 yX7_weighs, Cond.instanceMethod yX7_weighs, Cond.selects RX7 yX7_weighs yX7_weighs, Cond.code yX7_weighs cX7_weighs 6 (some .int), Cond.fieldLink RX7 77 "BackdaterModel" "tariffs" "I", Cond.fieldLink RX7 16 "BackdaterModel" "field" "[I", Cond.fieldLink RX7 22 "BackdaterModel" "since" "[I", Cond.fieldLink RX7 19 "BackdaterModel" "weight" "[I", Cond.methodLink RX7 116 yX7_begins, Cond.instanceMethod yX7_begins, Cond.selects RX7 yX7_begins yX7_begins, Cond.code yX7_begins cX7_begins 2 (some .boolean), Cond.methodLink RX7 123 yX7_charge, Cond.instanceMethod yX7_charge, Cond.selects RX7 yX7_charge yX7_charge, Cond.code yX7_charge cX7_charge 2 (some .int)]
def wsX7_segmentPremium : List Cond := .code yX7_segmentPremium cX7_segmentPremium 6 (some .int) :: ((wsX7_segmentPremium_r1 ++ (wsX7_segmentPremium_r2 ++ wsX7_segmentPremium_r3)) ++ wsX70)
def wsX7_all_r1 : List Cond := [Cond.methodLink RX7 112 yX7_looks, Cond.instanceMethod yX7_looks, Cond.selects RX7 yX7_looks yX7_looks, Cond.initialized RX7, Cond.code yX7_looks cX7_looks 5 (some .boolean), Cond.fieldLink RX7 80 "BackdaterModel" "today" "I", Cond.fieldLink RX7 59 "BackdaterModel" "thrown" "I", Cond.methodLink RX7 83 yX7_isPolicy, Cond.instanceMethod yX7_isPolicy, Cond.selects RX7 yX7_isPolicy yX7_isPolicy, Cond.code yX7_isPolicy cX7_isPolicy 2 (some .boolean), Cond.fieldLink RX7 67 "BackdaterModel" "policies" "I", Cond.methodLink RX7 63 yX7_isIn, Cond.static yX7_isIn, Cond.code yX7_isIn cX7_isIn 3 (some .boolean), Cond.methodLink RX7 70 yX7_isField, Cond.static yX7_isField, Cond.code yX7_isField cX7_isField 1 (some .boolean), Cond.methodLink RX7 74 yX7_isDay, Cond.static yX7_isDay, Cond.code yX7_isDay cX7_isDay 1 (some .boolean), Cond.methodLink RX7 108 yX7_goes, Cond.instanceMethod yX7_goes, Cond.selects RX7 yX7_goes yX7_goes]
def wsX7_all_r2 : List Cond := [Cond.code yX7_goes cX7_goes 7 none, Cond.fieldLink RX7 56 "BackdaterModel" "sum" "[I", Cond.fieldLink RX7 46 "BackdaterModel" "value" "[I", Cond.fieldLink RX7 86 "BackdaterModel" "changes" "I", Cond.fieldLink RX7 25 "BackdaterModel" "of" "[I", Cond.fieldLink RX7 34 "BackdaterModel" "from" "[I", Cond.fieldLink RX7 31 "BackdaterModel" "which" "[I", Cond.fieldLink RX7 28 "BackdaterModel" "kind" "[I", Cond.fieldLink RX7 37 "BackdaterModel" "number" "[I", Cond.fieldLink RX7 49 "BackdaterModel" "covered" "[Z", Cond.fieldLink RX7 7 "BackdaterModel" "base" "[I", Cond.fieldLink RX7 53 "BackdaterModel" "rate" "[I", Cond.methodLink RX7 96 yX7_isKnown, Cond.instanceMethod yX7_isKnown, Cond.selects RX7 yX7_isKnown yX7_isKnown, Cond.code yX7_isKnown cX7_isKnown 3 (some .boolean), Cond.fieldLink RX7 40 "BackdaterModel" "told" "[I", Cond.fieldLink RX7 43 "BackdaterModel" "taken" "[I", Cond.methodLink RX7 100 yX7_bounded, Cond.static yX7_bounded, Cond.code yX7_bounded cX7_bounded 1 (some .int), Cond.methodLink RX7 104 yX7_weighs, Cond.instanceMethod yX7_weighs, Cond.selects RX7 yX7_weighs yX7_weighs]
def wsX7_all_r3 : List Cond := [Cond.code yX7_weighs cX7_weighs 6 (some .int), Cond.fieldLink RX7 77 "BackdaterModel" "tariffs" "I", Cond.fieldLink RX7 16 "BackdaterModel" "field" "[I", Cond.fieldLink RX7 22 "BackdaterModel" "since" "[I", Cond.fieldLink RX7 19 "BackdaterModel" "weight" "[I", Cond.methodLink RX7 123 yX7_charge, Cond.instanceMethod yX7_charge, Cond.selects RX7 yX7_charge yX7_charge, Cond.code yX7_charge cX7_charge 2 (some .int)]
def wsX7_all : List Cond := .code yX7_all cX7_all 3 (some .int) :: ((wsX7_all_r1 ++ (wsX7_all_r2 ++ wsX7_all_r3)) ++ wsX70)
def wsX7_premium_r1 : List Cond := [Cond.methodLink RX7 126 yX7_all, Cond.instanceMethod yX7_all, Cond.selects RX7 yX7_all yX7_all, Cond.initialized RX7, Cond.code yX7_all cX7_all 3 (some .int), Cond.methodLink RX7 112 yX7_looks, Cond.instanceMethod yX7_looks, Cond.selects RX7 yX7_looks yX7_looks, Cond.code yX7_looks cX7_looks 5 (some .boolean), Cond.fieldLink RX7 80 "BackdaterModel" "today" "I", Cond.fieldLink RX7 59 "BackdaterModel" "thrown" "I", Cond.methodLink RX7 83 yX7_isPolicy, Cond.instanceMethod yX7_isPolicy, Cond.selects RX7 yX7_isPolicy yX7_isPolicy, Cond.code yX7_isPolicy cX7_isPolicy 2 (some .boolean), Cond.fieldLink RX7 67 "BackdaterModel" "policies" "I", Cond.methodLink RX7 63 yX7_isIn, Cond.static yX7_isIn, Cond.code yX7_isIn cX7_isIn 3 (some .boolean), Cond.methodLink RX7 70 yX7_isField, Cond.static yX7_isField, Cond.code yX7_isField cX7_isField 1 (some .boolean), Cond.methodLink RX7 74 yX7_isDay, Cond.static yX7_isDay]
def wsX7_premium_r2 : List Cond := [Cond.code yX7_isDay cX7_isDay 1 (some .boolean), Cond.methodLink RX7 108 yX7_goes, Cond.instanceMethod yX7_goes, Cond.selects RX7 yX7_goes yX7_goes, Cond.code yX7_goes cX7_goes 7 none, Cond.fieldLink RX7 56 "BackdaterModel" "sum" "[I", Cond.fieldLink RX7 46 "BackdaterModel" "value" "[I", Cond.fieldLink RX7 86 "BackdaterModel" "changes" "I", Cond.fieldLink RX7 25 "BackdaterModel" "of" "[I", Cond.fieldLink RX7 34 "BackdaterModel" "from" "[I", Cond.fieldLink RX7 31 "BackdaterModel" "which" "[I", Cond.fieldLink RX7 28 "BackdaterModel" "kind" "[I", Cond.fieldLink RX7 37 "BackdaterModel" "number" "[I", Cond.fieldLink RX7 49 "BackdaterModel" "covered" "[Z", Cond.fieldLink RX7 7 "BackdaterModel" "base" "[I", Cond.fieldLink RX7 53 "BackdaterModel" "rate" "[I", Cond.methodLink RX7 96 yX7_isKnown, Cond.instanceMethod yX7_isKnown, Cond.selects RX7 yX7_isKnown yX7_isKnown, Cond.code yX7_isKnown cX7_isKnown 3 (some .boolean), Cond.fieldLink RX7 40 "BackdaterModel" "told" "[I", Cond.fieldLink RX7 43 "BackdaterModel" "taken" "[I", Cond.methodLink RX7 100 yX7_bounded, Cond.static yX7_bounded]
def wsX7_premium_r3 : List Cond := [Cond.code yX7_bounded cX7_bounded 1 (some .int), Cond.methodLink RX7 104 yX7_weighs, Cond.instanceMethod yX7_weighs, Cond.selects RX7 yX7_weighs yX7_weighs, Cond.code yX7_weighs cX7_weighs 6 (some .int), Cond.fieldLink RX7 77 "BackdaterModel" "tariffs" "I", Cond.fieldLink RX7 16 "BackdaterModel" "field" "[I", Cond.fieldLink RX7 22 "BackdaterModel" "since" "[I", Cond.fieldLink RX7 19 "BackdaterModel" "weight" "[I", Cond.methodLink RX7 123 yX7_charge, Cond.instanceMethod yX7_charge, Cond.selects RX7 yX7_charge yX7_charge, Cond.code yX7_charge cX7_charge 2 (some .int)]
def wsX7_premium : List Cond := .code yX7_premium cX7_premium 3 (some .int) :: ((wsX7_premium_r1 ++ (wsX7_premium_r2 ++ wsX7_premium_r3)) ++ wsX70)
def wsX7_premiumByDays_r1 : List Cond := [Cond.methodLink RX7 126 yX7_all, Cond.instanceMethod yX7_all, Cond.selects RX7 yX7_all yX7_all, Cond.initialized RX7, Cond.code yX7_all cX7_all 3 (some .int), Cond.methodLink RX7 112 yX7_looks, Cond.instanceMethod yX7_looks, Cond.selects RX7 yX7_looks yX7_looks, Cond.code yX7_looks cX7_looks 5 (some .boolean), Cond.fieldLink RX7 80 "BackdaterModel" "today" "I", Cond.fieldLink RX7 59 "BackdaterModel" "thrown" "I", Cond.methodLink RX7 83 yX7_isPolicy, Cond.instanceMethod yX7_isPolicy, Cond.selects RX7 yX7_isPolicy yX7_isPolicy, Cond.code yX7_isPolicy cX7_isPolicy 2 (some .boolean), Cond.fieldLink RX7 67 "BackdaterModel" "policies" "I", Cond.methodLink RX7 63 yX7_isIn, Cond.static yX7_isIn, Cond.code yX7_isIn cX7_isIn 3 (some .boolean), Cond.methodLink RX7 70 yX7_isField, Cond.static yX7_isField, Cond.code yX7_isField cX7_isField 1 (some .boolean), Cond.methodLink RX7 74 yX7_isDay, Cond.static yX7_isDay]
def wsX7_premiumByDays_r2 : List Cond := [Cond.code yX7_isDay cX7_isDay 1 (some .boolean), Cond.methodLink RX7 108 yX7_goes, Cond.instanceMethod yX7_goes, Cond.selects RX7 yX7_goes yX7_goes, Cond.code yX7_goes cX7_goes 7 none, Cond.fieldLink RX7 56 "BackdaterModel" "sum" "[I", Cond.fieldLink RX7 46 "BackdaterModel" "value" "[I", Cond.fieldLink RX7 86 "BackdaterModel" "changes" "I", Cond.fieldLink RX7 25 "BackdaterModel" "of" "[I", Cond.fieldLink RX7 34 "BackdaterModel" "from" "[I", Cond.fieldLink RX7 31 "BackdaterModel" "which" "[I", Cond.fieldLink RX7 28 "BackdaterModel" "kind" "[I", Cond.fieldLink RX7 37 "BackdaterModel" "number" "[I", Cond.fieldLink RX7 49 "BackdaterModel" "covered" "[Z", Cond.fieldLink RX7 7 "BackdaterModel" "base" "[I", Cond.fieldLink RX7 53 "BackdaterModel" "rate" "[I", Cond.methodLink RX7 96 yX7_isKnown, Cond.instanceMethod yX7_isKnown, Cond.selects RX7 yX7_isKnown yX7_isKnown, Cond.code yX7_isKnown cX7_isKnown 3 (some .boolean), Cond.fieldLink RX7 40 "BackdaterModel" "told" "[I", Cond.fieldLink RX7 43 "BackdaterModel" "taken" "[I", Cond.methodLink RX7 100 yX7_bounded, Cond.static yX7_bounded]
def wsX7_premiumByDays_r3 : List Cond := [Cond.code yX7_bounded cX7_bounded 1 (some .int), Cond.methodLink RX7 104 yX7_weighs, Cond.instanceMethod yX7_weighs, Cond.selects RX7 yX7_weighs yX7_weighs, Cond.code yX7_weighs cX7_weighs 6 (some .int), Cond.fieldLink RX7 77 "BackdaterModel" "tariffs" "I", Cond.fieldLink RX7 16 "BackdaterModel" "field" "[I", Cond.fieldLink RX7 22 "BackdaterModel" "since" "[I", Cond.fieldLink RX7 19 "BackdaterModel" "weight" "[I", Cond.methodLink RX7 123 yX7_charge, Cond.instanceMethod yX7_charge, Cond.selects RX7 yX7_charge yX7_charge, Cond.code yX7_charge cX7_charge 2 (some .int)]
def wsX7_premiumByDays : List Cond := .code yX7_premiumByDays cX7_premiumByDays 3 (some .int) :: ((wsX7_premiumByDays_r1 ++ (wsX7_premiumByDays_r2 ++ wsX7_premiumByDays_r3)) ++ wsX70)
def wsX7_bill_r1 : List Cond := [Cond.fieldLink RX7 80 "BackdaterModel" "today" "I", Cond.fieldLink RX7 59 "BackdaterModel" "thrown" "I", Cond.fieldLink RX7 13 "BackdaterModel" "paid" "[I", Cond.methodLink RX7 126 yX7_all, Cond.instanceMethod yX7_all, Cond.selects RX7 yX7_all yX7_all, Cond.initialized RX7, Cond.code yX7_all cX7_all 3 (some .int), Cond.methodLink RX7 112 yX7_looks, Cond.instanceMethod yX7_looks, Cond.selects RX7 yX7_looks yX7_looks, Cond.code yX7_looks cX7_looks 5 (some .boolean), Cond.methodLink RX7 83 yX7_isPolicy, Cond.instanceMethod yX7_isPolicy, Cond.selects RX7 yX7_isPolicy yX7_isPolicy, Cond.code yX7_isPolicy cX7_isPolicy 2 (some .boolean), Cond.fieldLink RX7 67 "BackdaterModel" "policies" "I", Cond.methodLink RX7 63 yX7_isIn, Cond.static yX7_isIn, Cond.code yX7_isIn cX7_isIn 3 (some .boolean), Cond.methodLink RX7 70 yX7_isField, Cond.static yX7_isField, Cond.code yX7_isField cX7_isField 1 (some .boolean), Cond.methodLink RX7 74 yX7_isDay]
def wsX7_bill_r2 : List Cond := [Cond.static yX7_isDay, Cond.code yX7_isDay cX7_isDay 1 (some .boolean), Cond.methodLink RX7 108 yX7_goes, Cond.instanceMethod yX7_goes, Cond.selects RX7 yX7_goes yX7_goes, Cond.code yX7_goes cX7_goes 7 none, Cond.fieldLink RX7 56 "BackdaterModel" "sum" "[I", Cond.fieldLink RX7 46 "BackdaterModel" "value" "[I", Cond.fieldLink RX7 86 "BackdaterModel" "changes" "I", Cond.fieldLink RX7 25 "BackdaterModel" "of" "[I", Cond.fieldLink RX7 34 "BackdaterModel" "from" "[I", Cond.fieldLink RX7 31 "BackdaterModel" "which" "[I", Cond.fieldLink RX7 28 "BackdaterModel" "kind" "[I", Cond.fieldLink RX7 37 "BackdaterModel" "number" "[I", Cond.fieldLink RX7 49 "BackdaterModel" "covered" "[Z", Cond.fieldLink RX7 7 "BackdaterModel" "base" "[I", Cond.fieldLink RX7 53 "BackdaterModel" "rate" "[I", Cond.methodLink RX7 96 yX7_isKnown, Cond.instanceMethod yX7_isKnown, Cond.selects RX7 yX7_isKnown yX7_isKnown, Cond.code yX7_isKnown cX7_isKnown 3 (some .boolean), Cond.fieldLink RX7 40 "BackdaterModel" "told" "[I", Cond.fieldLink RX7 43 "BackdaterModel" "taken" "[I", Cond.methodLink RX7 100 yX7_bounded]
def wsX7_bill_r3 : List Cond := [Cond.static yX7_bounded, Cond.code yX7_bounded cX7_bounded 1 (some .int), Cond.methodLink RX7 104 yX7_weighs, Cond.instanceMethod yX7_weighs, Cond.selects RX7 yX7_weighs yX7_weighs, Cond.code yX7_weighs cX7_weighs 6 (some .int), Cond.fieldLink RX7 77 "BackdaterModel" "tariffs" "I", Cond.fieldLink RX7 16 "BackdaterModel" "field" "[I", Cond.fieldLink RX7 22 "BackdaterModel" "since" "[I", Cond.fieldLink RX7 19 "BackdaterModel" "weight" "[I", Cond.methodLink RX7 123 yX7_charge, Cond.instanceMethod yX7_charge, Cond.selects RX7 yX7_charge yX7_charge, Cond.code yX7_charge cX7_charge 2 (some .int)]
def wsX7_bill : List Cond := .code yX7_bill cX7_bill 4 (some .int) :: ((wsX7_bill_r1 ++ (wsX7_bill_r2 ++ wsX7_bill_r3)) ++ wsX70)
def wsX7_billed : List Cond := .code yX7_billed cX7_billed 2 (some .int) :: ([.fieldLink RX7 59 "BackdaterModel" "thrown" "I", .fieldLink RX7 13 "BackdaterModel" "paid" "[I", .methodLink RX7 83 yX7_isPolicy, .instanceMethod yX7_isPolicy, .selects RX7 yX7_isPolicy yX7_isPolicy, .initialized RX7, .code yX7_isPolicy cX7_isPolicy 2 (some .boolean), .fieldLink RX7 67 "BackdaterModel" "policies" "I", .methodLink RX7 63 yX7_isIn, .static yX7_isIn, .code yX7_isIn cX7_isIn 3 (some .boolean)] ++ wsX70)
def wsJ2_newBytesLength_0f7a4 : List Cond := .code yJ2_newBytesLength_0f7a4 cJ2_newBytesLength_0f7a4 1 (some .int) :: ([.constant RJ2 20 (1073741823)])
def wsJ2_newBytesFor_77867 : List Cond := .code yJ2_newBytesFor_77867 cJ2_newBytesFor_77867 1 (some (.array .byte)) :: ([.arrayClass .byte, .methodLink RJ2 11 yJ2_newBytesLength_0f7a4, .static yJ2_newBytesLength_0f7a4, .initialized RJ2, .code yJ2_newBytesLength_0f7a4 cJ2_newBytesLength_0f7a4 1 (some .int), .constant RJ2 20 (1073741823)])
def wsJ5_init_d00df : List Cond := .code yJ5_init_d00df cJ5_init_d00df 2 none :: ([.methodLink RJ5 3 objectInit, .instanceMethod objectInit, .code objectInit ⟨#[0xb1]⟩ 1 none, .fieldLink RJ5 18 "java/lang/String" "COMPACT_STRINGS" "Z", .arrayClass .byte, .fieldLink RJ5 15 "java/lang/AbstractStringBuilder" "value" "[B", .fieldLink RJ5 22 "java/lang/AbstractStringBuilder" "coder" "B", .methodLink RJ5 26 yJ2_newBytesFor_77867, .static yJ2_newBytesFor_77867, .initialized RJ2, .code yJ2_newBytesFor_77867 cJ2_newBytesFor_77867 1 (some (.array .byte)), .methodLink RJ2 11 yJ2_newBytesLength_0f7a4, .static yJ2_newBytesLength_0f7a4, .code yJ2_newBytesLength_0f7a4 cJ2_newBytesLength_0f7a4 1 (some .int), .constant RJ2 20 (1073741823)] ++ wsJ40)
def wsJ5_length_8abf5 : List Cond := .code yJ5_length_8abf5 cJ5_length_8abf5 1 (some .int) :: ([.fieldLink RJ5 79 "java/lang/AbstractStringBuilder" "count" "I"] ++ wsJ40)
def wsJ5_newCapacity_0f7a4 : List Cond := .code yJ5_newCapacity_0f7a4 cJ5_newCapacity_0f7a4 6 (some .int) :: ([.fieldLink RJ5 15 "java/lang/AbstractStringBuilder" "value" "[B", .fieldLink RJ5 22 "java/lang/AbstractStringBuilder" "coder" "B", .constant RJ5 39 (2147483647), .methodLink RJ5 114 yJ8_newLength_cabcc, .static yJ8_newLength_cabcc, .initialized RJ8, .code yJ8_newLength_cabcc cJ8_newLength_cabcc 4 (some .int), .methodLink RJ8 194 Lib.Math.max.name, .static Lib.Math.max.name, .initialized "java/lang/Math", .code Lib.Math.max.name Lib.Math.max.code 2 (some .int), .constant RJ8 200 (2147483639), .methodLink RJ8 201 yJ8_hugeLength_7cf53, .static yJ8_hugeLength_7cf53, .code yJ8_hugeLength_7cf53 cJ8_hugeLength_7cf53 3 (some .int)] ++ wsJ40)
def wsJ7_copyOf_9075b : List Cond := .code yJ7_copyOf_9075b cJ7_copyOf_9075b 3 (some (.array .byte)) :: ([.methodLink RJ7 310 ⟨"[B", "clone", "()Ljava/lang/Object;"⟩, .sameMethod "[B" "java/lang/Object" "clone" "()Ljava/lang/Object;", .native ⟨"java/lang/Object", "clone", "()Ljava/lang/Object;"⟩, .instanceMethod ⟨"java/lang/Object", "clone", "()Ljava/lang/Object;"⟩, .selects "[B" ⟨"[B", "clone", "()Ljava/lang/Object;"⟩ ⟨"java/lang/Object", "clone", "()Ljava/lang/Object;"⟩, .classLink RJ7 311 "[B", .arrayClass .byte, .methodLink RJ7 304 Lib.Math.min.name, .static Lib.Math.min.name, .initialized "java/lang/Math", .code Lib.Math.min.name Lib.Math.min.code 2 (some .int), .methodLink RJ7 150 arraycopyName, .native arraycopyName, .static arraycopyName, .initialized "java/lang/System"])
def wsJ5_ensureCapacityInternal_d00df_r1 : List Cond := [Cond.fieldLink RJ5 15 "java/lang/AbstractStringBuilder" "value" "[B", Cond.fieldLink RJ5 22 "java/lang/AbstractStringBuilder" "coder" "B", Cond.methodLink RJ5 104 ⟨"java/lang/AbstractStringBuilder", "newCapacity", "(I)I"⟩, Cond.sameMethod "java/lang/AbstractStringBuilder" "java/lang/AbstractStringBuilder" "newCapacity" "(I)I", Cond.selects RJ4 ⟨"java/lang/AbstractStringBuilder", "newCapacity", "(I)I"⟩ yJ5_newCapacity_0f7a4, Cond.instanceMethod yJ5_newCapacity_0f7a4, Cond.initialized RJ5, Cond.code yJ5_newCapacity_0f7a4 cJ5_newCapacity_0f7a4 6 (some .int), Cond.constant RJ5 39 (2147483647), Cond.methodLink RJ5 114 yJ8_newLength_cabcc, Cond.static yJ8_newLength_cabcc, Cond.initialized RJ8, Cond.code yJ8_newLength_cabcc cJ8_newLength_cabcc 4 (some .int), Cond.methodLink RJ8 194 Lib.Math.max.name, Cond.static Lib.Math.max.name, Cond.initialized "java/lang/Math", Cond.code Lib.Math.max.name Lib.Math.max.code 2 (some .int), Cond.constant RJ8 200 (2147483639), Cond.methodLink RJ8 201 yJ8_hugeLength_7cf53, Cond.static yJ8_hugeLength_7cf53, Cond.code yJ8_hugeLength_7cf53 cJ8_hugeLength_7cf53 3 (some .int), Cond.methodLink RJ5 108 yJ7_copyOf_9075b, Cond.static yJ7_copyOf_9075b, Cond.initialized RJ7]
def wsJ5_ensureCapacityInternal_d00df_r2 : List Cond := [Cond.code yJ7_copyOf_9075b cJ7_copyOf_9075b 3 (some (.array .byte)), Cond.methodLink RJ7 310 ⟨"[B", "clone", "()Ljava/lang/Object;"⟩, Cond.sameMethod "[B" "java/lang/Object" "clone" "()Ljava/lang/Object;", Cond.native ⟨"java/lang/Object", "clone", "()Ljava/lang/Object;"⟩, Cond.instanceMethod ⟨"java/lang/Object", "clone", "()Ljava/lang/Object;"⟩, Cond.selects "[B" ⟨"[B", "clone", "()Ljava/lang/Object;"⟩ ⟨"java/lang/Object", "clone", "()Ljava/lang/Object;"⟩, Cond.classLink RJ7 311 "[B", Cond.arrayClass .byte, Cond.methodLink RJ7 304 Lib.Math.min.name, Cond.static Lib.Math.min.name, Cond.code Lib.Math.min.name Lib.Math.min.code 2 (some .int), Cond.methodLink RJ7 150 arraycopyName, Cond.native arraycopyName, Cond.static arraycopyName, Cond.initialized "java/lang/System"]
def wsJ5_ensureCapacityInternal_d00df : List Cond := .code yJ5_ensureCapacityInternal_d00df cJ5_ensureCapacityInternal_d00df 3 none :: ((wsJ5_ensureCapacityInternal_d00df_r1 ++ wsJ5_ensureCapacityInternal_d00df_r2) ++ wsJ40)
def wsJ5_isLatin1_aae02 : List Cond := .code yJ5_isLatin1_aae02 cJ5_isLatin1_aae02 1 (some .boolean) :: ([.fieldLink RJ5 18 "java/lang/String" "COMPACT_STRINGS" "Z", .fieldLink RJ5 22 "java/lang/AbstractStringBuilder" "coder" "B"] ++ wsJ40)
def wsJ2_length_9d52b : List Cond := .code yJ2_length_9d52b cJ2_length_9d52b 1 (some .int) :: ([])
def wsJ3_checkFromIndexSize_8c36e : List Cond := .code yJ3_checkFromIndexSize_8c36e cJ3_checkFromIndexSize_8c36e 4 (some .int) :: ([])
def wsJ0_checkBoundsOffCount_cabcc : List Cond := .code yJ0_checkBoundsOffCount_cabcc cJ0_checkBoundsOffCount_cabcc 3 (some .int) :: ([.fieldLink RJ0 1053 "jdk/internal/util/Preconditions" "SIOOBE_FORMATTER" "Ljava/util/function/BiFunction;", .methodLink RJ0 1065 yJ3_checkFromIndexSize_8c36e, .static yJ3_checkFromIndexSize_8c36e, .initialized RJ3, .code yJ3_checkFromIndexSize_8c36e cJ3_checkFromIndexSize_8c36e 4 (some .int)])
def wsJ2_checkBoundsOffCount_d044e : List Cond := .code yJ2_checkBoundsOffCount_d044e cJ2_checkBoundsOffCount_d044e 3 none :: ([.methodLink RJ2 48 yJ2_length_9d52b, .static yJ2_length_9d52b, .initialized RJ2, .code yJ2_length_9d52b cJ2_length_9d52b 1 (some .int), .methodLink RJ2 419 yJ0_checkBoundsOffCount_cabcc, .static yJ0_checkBoundsOffCount_cabcc, .initialized RJ0, .code yJ0_checkBoundsOffCount_cabcc cJ0_checkBoundsOffCount_cabcc 3 (some .int), .fieldLink RJ0 1053 "jdk/internal/util/Preconditions" "SIOOBE_FORMATTER" "Ljava/util/function/BiFunction;", .methodLink RJ0 1065 yJ3_checkFromIndexSize_8c36e, .static yJ3_checkFromIndexSize_8c36e, .initialized RJ3, .code yJ3_checkFromIndexSize_8c36e cJ3_checkFromIndexSize_8c36e 4 (some .int)])
def wsJ2_putChar_b72d1 : List Cond := .code yJ2_putChar_b72d1 cJ2_putChar_b72d1 3 none :: ([.fieldLink RJ2 44 "java/lang/StringUTF16" "$assertionsDisabled" "Z", .fieldLink RJ2 59 "java/lang/StringUTF16" "HI_BYTE_SHIFT" "I", .fieldLink RJ2 63 "java/lang/StringUTF16" "LO_BYTE_SHIFT" "I", .methodLink RJ2 48 yJ2_length_9d52b, .static yJ2_length_9d52b, .initialized RJ2, .code yJ2_length_9d52b cJ2_length_9d52b 1 (some .int)])
def wsJ2_inflate_0e8fd : List Cond := .code yJ2_inflate_0e8fd cJ2_inflate_0e8fd 6 none :: ([.methodLink RJ2 173 yJ2_checkBoundsOffCount_d044e, .static yJ2_checkBoundsOffCount_d044e, .initialized RJ2, .code yJ2_checkBoundsOffCount_d044e cJ2_checkBoundsOffCount_d044e 3 none, .methodLink RJ2 48 yJ2_length_9d52b, .static yJ2_length_9d52b, .code yJ2_length_9d52b cJ2_length_9d52b 1 (some .int), .methodLink RJ2 419 yJ0_checkBoundsOffCount_cabcc, .static yJ0_checkBoundsOffCount_cabcc, .initialized RJ0, .code yJ0_checkBoundsOffCount_cabcc cJ0_checkBoundsOffCount_cabcc 3 (some .int), .fieldLink RJ0 1053 "jdk/internal/util/Preconditions" "SIOOBE_FORMATTER" "Ljava/util/function/BiFunction;", .methodLink RJ0 1065 yJ3_checkFromIndexSize_8c36e, .static yJ3_checkFromIndexSize_8c36e, .initialized RJ3, .code yJ3_checkFromIndexSize_8c36e cJ3_checkFromIndexSize_8c36e 4 (some .int), .methodLink RJ2 111 yJ2_putChar_b72d1, .static yJ2_putChar_b72d1, .code yJ2_putChar_b72d1 cJ2_putChar_b72d1 3 none, .fieldLink RJ2 44 "java/lang/StringUTF16" "$assertionsDisabled" "Z", .fieldLink RJ2 59 "java/lang/StringUTF16" "HI_BYTE_SHIFT" "I", .fieldLink RJ2 63 "java/lang/StringUTF16" "LO_BYTE_SHIFT" "I"])
def wsJ1_inflate_0e8fd_r1 : List Cond := [Cond.methodLink RJ1 240 yJ2_inflate_0e8fd, Cond.static yJ2_inflate_0e8fd, Cond.initialized RJ2, Cond.code yJ2_inflate_0e8fd cJ2_inflate_0e8fd 6 none, Cond.methodLink RJ2 173 yJ2_checkBoundsOffCount_d044e, Cond.static yJ2_checkBoundsOffCount_d044e, Cond.code yJ2_checkBoundsOffCount_d044e cJ2_checkBoundsOffCount_d044e 3 none, Cond.methodLink RJ2 48 yJ2_length_9d52b, Cond.static yJ2_length_9d52b, Cond.code yJ2_length_9d52b cJ2_length_9d52b 1 (some .int), Cond.methodLink RJ2 419 yJ0_checkBoundsOffCount_cabcc, Cond.static yJ0_checkBoundsOffCount_cabcc, Cond.initialized RJ0, Cond.code yJ0_checkBoundsOffCount_cabcc cJ0_checkBoundsOffCount_cabcc 3 (some .int), Cond.fieldLink RJ0 1053 "jdk/internal/util/Preconditions" "SIOOBE_FORMATTER" "Ljava/util/function/BiFunction;", Cond.methodLink RJ0 1065 yJ3_checkFromIndexSize_8c36e, Cond.static yJ3_checkFromIndexSize_8c36e, Cond.initialized RJ3, Cond.code yJ3_checkFromIndexSize_8c36e cJ3_checkFromIndexSize_8c36e 4 (some .int), Cond.methodLink RJ2 111 yJ2_putChar_b72d1, Cond.static yJ2_putChar_b72d1, Cond.code yJ2_putChar_b72d1 cJ2_putChar_b72d1 3 none, Cond.fieldLink RJ2 44 "java/lang/StringUTF16" "$assertionsDisabled" "Z", Cond.fieldLink RJ2 59 "java/lang/StringUTF16" "HI_BYTE_SHIFT" "I"]
def wsJ1_inflate_0e8fd_r2 : List Cond := [Cond.fieldLink RJ2 63 "java/lang/StringUTF16" "LO_BYTE_SHIFT" "I"]
def wsJ1_inflate_0e8fd : List Cond := .code yJ1_inflate_0e8fd cJ1_inflate_0e8fd 5 none :: ((wsJ1_inflate_0e8fd_r1 ++ wsJ1_inflate_0e8fd_r2))
def wsJ5_inflate_da8c8_r1 : List Cond := [Cond.fieldLink RJ5 15 "java/lang/AbstractStringBuilder" "value" "[B", Cond.fieldLink RJ5 79 "java/lang/AbstractStringBuilder" "count" "I", Cond.fieldLink RJ5 22 "java/lang/AbstractStringBuilder" "coder" "B", Cond.methodLink RJ5 83 ⟨"java/lang/AbstractStringBuilder", "isLatin1", "()Z"⟩, Cond.sameMethod "java/lang/AbstractStringBuilder" "java/lang/AbstractStringBuilder" "isLatin1" "()Z", Cond.selects RJ4 ⟨"java/lang/AbstractStringBuilder", "isLatin1", "()Z"⟩ yJ5_isLatin1_aae02, Cond.instanceMethod yJ5_isLatin1_aae02, Cond.initialized RJ5, Cond.code yJ5_isLatin1_aae02 cJ5_isLatin1_aae02 1 (some .boolean), Cond.fieldLink RJ5 18 "java/lang/String" "COMPACT_STRINGS" "Z", Cond.methodLink RJ5 26 yJ2_newBytesFor_77867, Cond.static yJ2_newBytesFor_77867, Cond.initialized RJ2, Cond.code yJ2_newBytesFor_77867 cJ2_newBytesFor_77867 1 (some (.array .byte)), Cond.arrayClass .byte, Cond.methodLink RJ2 11 yJ2_newBytesLength_0f7a4, Cond.static yJ2_newBytesLength_0f7a4, Cond.code yJ2_newBytesLength_0f7a4 cJ2_newBytesLength_0f7a4 1 (some .int), Cond.constant RJ2 20 (1073741823), Cond.methodLink RJ5 125 yJ1_inflate_0e8fd, Cond.static yJ1_inflate_0e8fd, Cond.initialized RJ1, Cond.code yJ1_inflate_0e8fd cJ1_inflate_0e8fd 5 none, Cond.methodLink RJ1 240 yJ2_inflate_0e8fd]
def wsJ5_inflate_da8c8_r2 : List Cond := [Cond.static yJ2_inflate_0e8fd, Cond.code yJ2_inflate_0e8fd cJ2_inflate_0e8fd 6 none, Cond.methodLink RJ2 173 yJ2_checkBoundsOffCount_d044e, Cond.static yJ2_checkBoundsOffCount_d044e, Cond.code yJ2_checkBoundsOffCount_d044e cJ2_checkBoundsOffCount_d044e 3 none, Cond.methodLink RJ2 48 yJ2_length_9d52b, Cond.static yJ2_length_9d52b, Cond.code yJ2_length_9d52b cJ2_length_9d52b 1 (some .int), Cond.methodLink RJ2 419 yJ0_checkBoundsOffCount_cabcc, Cond.static yJ0_checkBoundsOffCount_cabcc, Cond.initialized RJ0, Cond.code yJ0_checkBoundsOffCount_cabcc cJ0_checkBoundsOffCount_cabcc 3 (some .int), Cond.fieldLink RJ0 1053 "jdk/internal/util/Preconditions" "SIOOBE_FORMATTER" "Ljava/util/function/BiFunction;", Cond.methodLink RJ0 1065 yJ3_checkFromIndexSize_8c36e, Cond.static yJ3_checkFromIndexSize_8c36e, Cond.initialized RJ3, Cond.code yJ3_checkFromIndexSize_8c36e cJ3_checkFromIndexSize_8c36e 4 (some .int), Cond.methodLink RJ2 111 yJ2_putChar_b72d1, Cond.static yJ2_putChar_b72d1, Cond.code yJ2_putChar_b72d1 cJ2_putChar_b72d1 3 none, Cond.fieldLink RJ2 44 "java/lang/StringUTF16" "$assertionsDisabled" "Z", Cond.fieldLink RJ2 59 "java/lang/StringUTF16" "HI_BYTE_SHIFT" "I", Cond.fieldLink RJ2 63 "java/lang/StringUTF16" "LO_BYTE_SHIFT" "I"]
def wsJ5_inflate_da8c8 : List Cond := .code yJ5_inflate_da8c8 cJ5_inflate_da8c8 2 none :: ((wsJ5_inflate_da8c8_r1 ++ wsJ5_inflate_da8c8_r2) ++ wsJ40)
def wsJ3_checkFromToIndex_8c36e : List Cond := .code yJ3_checkFromToIndex_8c36e cJ3_checkFromToIndex_8c36e 4 (some .int) :: ([])
def wsJ0_checkBoundsBeginEnd_23922 : List Cond := .code yJ0_checkBoundsBeginEnd_23922 cJ0_checkBoundsBeginEnd_23922 3 none :: ([.fieldLink RJ0 1053 "jdk/internal/util/Preconditions" "SIOOBE_FORMATTER" "Ljava/util/function/BiFunction;", .methodLink RJ0 1062 yJ3_checkFromToIndex_8c36e, .static yJ3_checkFromToIndex_8c36e, .initialized RJ3, .code yJ3_checkFromToIndex_8c36e cJ3_checkFromToIndex_8c36e 4 (some .int)])
def wsJ2_checkBoundsBeginEnd_d044e : List Cond := .code yJ2_checkBoundsBeginEnd_d044e cJ2_checkBoundsBeginEnd_d044e 3 none :: ([.methodLink RJ2 48 yJ2_length_9d52b, .static yJ2_length_9d52b, .initialized RJ2, .code yJ2_length_9d52b cJ2_length_9d52b 1 (some .int), .methodLink RJ2 241 yJ0_checkBoundsBeginEnd_23922, .static yJ0_checkBoundsBeginEnd_23922, .initialized RJ0, .code yJ0_checkBoundsBeginEnd_23922 cJ0_checkBoundsBeginEnd_23922 3 none, .fieldLink RJ0 1053 "jdk/internal/util/Preconditions" "SIOOBE_FORMATTER" "Ljava/util/function/BiFunction;", .methodLink RJ0 1062 yJ3_checkFromToIndex_8c36e, .static yJ3_checkFromToIndex_8c36e, .initialized RJ3, .code yJ3_checkFromToIndex_8c36e cJ3_checkFromToIndex_8c36e 4 (some .int)])
def wsJ2_putCharsAt_cd4e5 : List Cond := .code yJ2_putCharsAt_cd4e5 cJ2_putCharsAt_cd4e5 7 (some .int) :: ([.fieldLink RJ2 44 "java/lang/StringUTF16" "$assertionsDisabled" "Z", .methodLink RJ2 96 yJ2_checkBoundsBeginEnd_d044e, .static yJ2_checkBoundsBeginEnd_d044e, .initialized RJ2, .code yJ2_checkBoundsBeginEnd_d044e cJ2_checkBoundsBeginEnd_d044e 3 none, .methodLink RJ2 48 yJ2_length_9d52b, .static yJ2_length_9d52b, .code yJ2_length_9d52b cJ2_length_9d52b 1 (some .int), .methodLink RJ2 241 yJ0_checkBoundsBeginEnd_23922, .static yJ0_checkBoundsBeginEnd_23922, .initialized RJ0, .code yJ0_checkBoundsBeginEnd_23922 cJ0_checkBoundsBeginEnd_23922 3 none, .fieldLink RJ0 1053 "jdk/internal/util/Preconditions" "SIOOBE_FORMATTER" "Ljava/util/function/BiFunction;", .methodLink RJ0 1062 yJ3_checkFromToIndex_8c36e, .static yJ3_checkFromToIndex_8c36e, .initialized RJ3, .code yJ3_checkFromToIndex_8c36e cJ3_checkFromToIndex_8c36e 4 (some .int), .methodLink RJ2 111 yJ2_putChar_b72d1, .static yJ2_putChar_b72d1, .code yJ2_putChar_b72d1 cJ2_putChar_b72d1 3 none, .fieldLink RJ2 59 "java/lang/StringUTF16" "HI_BYTE_SHIFT" "I", .fieldLink RJ2 63 "java/lang/StringUTF16" "LO_BYTE_SHIFT" "I"])
def wsJ5_appendNull_278bc_r1 : List Cond := [Cond.fieldLink RJ5 79 "java/lang/AbstractStringBuilder" "count" "I", Cond.fieldLink RJ5 15 "java/lang/AbstractStringBuilder" "value" "[B", Cond.methodLink RJ5 100 ⟨"java/lang/AbstractStringBuilder", "ensureCapacityInternal", "(I)V"⟩, Cond.sameMethod "java/lang/AbstractStringBuilder" "java/lang/AbstractStringBuilder" "ensureCapacityInternal" "(I)V", Cond.selects RJ4 ⟨"java/lang/AbstractStringBuilder", "ensureCapacityInternal", "(I)V"⟩ yJ5_ensureCapacityInternal_d00df, Cond.instanceMethod yJ5_ensureCapacityInternal_d00df, Cond.initialized RJ5, Cond.code yJ5_ensureCapacityInternal_d00df cJ5_ensureCapacityInternal_d00df 3 none, Cond.fieldLink RJ5 22 "java/lang/AbstractStringBuilder" "coder" "B", Cond.methodLink RJ5 104 ⟨"java/lang/AbstractStringBuilder", "newCapacity", "(I)I"⟩, Cond.sameMethod "java/lang/AbstractStringBuilder" "java/lang/AbstractStringBuilder" "newCapacity" "(I)I", Cond.selects RJ4 ⟨"java/lang/AbstractStringBuilder", "newCapacity", "(I)I"⟩ yJ5_newCapacity_0f7a4, Cond.instanceMethod yJ5_newCapacity_0f7a4, Cond.code yJ5_newCapacity_0f7a4 cJ5_newCapacity_0f7a4 6 (some .int), Cond.constant RJ5 39 (2147483647), Cond.methodLink RJ5 114 yJ8_newLength_cabcc, Cond.static yJ8_newLength_cabcc, Cond.initialized RJ8, Cond.code yJ8_newLength_cabcc cJ8_newLength_cabcc 4 (some .int), Cond.methodLink RJ8 194 Lib.Math.max.name, Cond.static Lib.Math.max.name, Cond.initialized "java/lang/Math", Cond.code Lib.Math.max.name Lib.Math.max.code 2 (some .int), Cond.constant RJ8 200 (2147483639)]
def wsJ5_appendNull_278bc_r2 : List Cond := [Cond.methodLink RJ8 201 yJ8_hugeLength_7cf53, Cond.static yJ8_hugeLength_7cf53, Cond.code yJ8_hugeLength_7cf53 cJ8_hugeLength_7cf53 3 (some .int), Cond.methodLink RJ5 108 yJ7_copyOf_9075b, Cond.static yJ7_copyOf_9075b, Cond.initialized RJ7, Cond.code yJ7_copyOf_9075b cJ7_copyOf_9075b 3 (some (.array .byte)), Cond.methodLink RJ7 310 ⟨"[B", "clone", "()Ljava/lang/Object;"⟩, Cond.sameMethod "[B" "java/lang/Object" "clone" "()Ljava/lang/Object;", Cond.native ⟨"java/lang/Object", "clone", "()Ljava/lang/Object;"⟩, Cond.instanceMethod ⟨"java/lang/Object", "clone", "()Ljava/lang/Object;"⟩, Cond.selects "[B" ⟨"[B", "clone", "()Ljava/lang/Object;"⟩ ⟨"java/lang/Object", "clone", "()Ljava/lang/Object;"⟩, Cond.classLink RJ7 311 "[B", Cond.arrayClass .byte, Cond.methodLink RJ7 304 Lib.Math.min.name, Cond.static Lib.Math.min.name, Cond.code Lib.Math.min.name Lib.Math.min.code 2 (some .int), Cond.methodLink RJ7 150 arraycopyName, Cond.native arraycopyName, Cond.static arraycopyName, Cond.initialized "java/lang/System", Cond.methodLink RJ5 83 ⟨"java/lang/AbstractStringBuilder", "isLatin1", "()Z"⟩, Cond.sameMethod "java/lang/AbstractStringBuilder" "java/lang/AbstractStringBuilder" "isLatin1" "()Z", Cond.selects RJ4 ⟨"java/lang/AbstractStringBuilder", "isLatin1", "()Z"⟩ yJ5_isLatin1_aae02]
def wsJ5_appendNull_278bc_r3 : List Cond := [Cond.instanceMethod yJ5_isLatin1_aae02, Cond.code yJ5_isLatin1_aae02 cJ5_isLatin1_aae02 1 (some .boolean), Cond.fieldLink RJ5 18 "java/lang/String" "COMPACT_STRINGS" "Z", Cond.methodLink RJ5 226 yJ2_putCharsAt_cd4e5, Cond.static yJ2_putCharsAt_cd4e5, Cond.initialized RJ2, Cond.code yJ2_putCharsAt_cd4e5 cJ2_putCharsAt_cd4e5 7 (some .int), Cond.fieldLink RJ2 44 "java/lang/StringUTF16" "$assertionsDisabled" "Z", Cond.methodLink RJ2 96 yJ2_checkBoundsBeginEnd_d044e, Cond.static yJ2_checkBoundsBeginEnd_d044e, Cond.code yJ2_checkBoundsBeginEnd_d044e cJ2_checkBoundsBeginEnd_d044e 3 none, Cond.methodLink RJ2 48 yJ2_length_9d52b, Cond.static yJ2_length_9d52b, Cond.code yJ2_length_9d52b cJ2_length_9d52b 1 (some .int), Cond.methodLink RJ2 241 yJ0_checkBoundsBeginEnd_23922, Cond.static yJ0_checkBoundsBeginEnd_23922, Cond.initialized RJ0, Cond.code yJ0_checkBoundsBeginEnd_23922 cJ0_checkBoundsBeginEnd_23922 3 none, Cond.fieldLink RJ0 1053 "jdk/internal/util/Preconditions" "SIOOBE_FORMATTER" "Ljava/util/function/BiFunction;", Cond.methodLink RJ0 1062 yJ3_checkFromToIndex_8c36e, Cond.static yJ3_checkFromToIndex_8c36e, Cond.initialized RJ3, Cond.code yJ3_checkFromToIndex_8c36e cJ3_checkFromToIndex_8c36e 4 (some .int), Cond.methodLink RJ2 111 yJ2_putChar_b72d1]
def wsJ5_appendNull_278bc_r4 : List Cond := [Cond.static yJ2_putChar_b72d1, Cond.code yJ2_putChar_b72d1 cJ2_putChar_b72d1 3 none, Cond.fieldLink RJ2 59 "java/lang/StringUTF16" "HI_BYTE_SHIFT" "I", Cond.fieldLink RJ2 63 "java/lang/StringUTF16" "LO_BYTE_SHIFT" "I"]
def wsJ5_appendNull_278bc : List Cond := .code yJ5_appendNull_278bc cJ5_appendNull_278bc 3 (some (.object "java/lang/AbstractStringBuilder")) :: ((wsJ5_appendNull_278bc_r1 ++ (wsJ5_appendNull_278bc_r2 ++ (wsJ5_appendNull_278bc_r3 ++ wsJ5_appendNull_278bc_r4))) ++ wsJ40)
def wsJ0_coder_7d493 : List Cond := .code yJ0_coder_7d493 cJ0_coder_7d493 1 (some .byte) :: ([.fieldLink RJ0 38 "java/lang/String" "COMPACT_STRINGS" "Z", .fieldLink RJ0 15 "java/lang/String" "coder" "B"] ++ wsJ00)
def wsJ0_length_8abf5 : List Cond := .code yJ0_length_8abf5 cJ0_length_8abf5 1 (some .int) :: ([.fieldLink RJ0 9 "java/lang/String" "value" "[B", .methodLink RJ0 335 yJ0_coder_7d493, .instanceMethod yJ0_coder_7d493, .selects RJ0 yJ0_coder_7d493 yJ0_coder_7d493, .initialized RJ0, .code yJ0_coder_7d493 cJ0_coder_7d493 1 (some .byte), .fieldLink RJ0 38 "java/lang/String" "COMPACT_STRINGS" "Z", .fieldLink RJ0 15 "java/lang/String" "coder" "B"] ++ wsJ00)
def wsJ5_inflateIfNeededFor_a7421_r1 : List Cond := [Cond.fieldLink RJ5 18 "java/lang/String" "COMPACT_STRINGS" "Z", Cond.fieldLink RJ5 22 "java/lang/AbstractStringBuilder" "coder" "B", Cond.methodLink RJ5 40 yJ0_coder_7d493, Cond.instanceMethod yJ0_coder_7d493, Cond.selects RJ0 yJ0_coder_7d493 yJ0_coder_7d493, Cond.initialized RJ0, Cond.code yJ0_coder_7d493 cJ0_coder_7d493 1 (some .byte), Cond.fieldLink RJ0 38 "java/lang/String" "COMPACT_STRINGS" "Z", Cond.fieldLink RJ0 15 "java/lang/String" "coder" "B", Cond.methodLink RJ5 195 ⟨"java/lang/AbstractStringBuilder", "inflate", "()V"⟩, Cond.sameMethod "java/lang/AbstractStringBuilder" "java/lang/AbstractStringBuilder" "inflate" "()V", Cond.selects RJ4 ⟨"java/lang/AbstractStringBuilder", "inflate", "()V"⟩ yJ5_inflate_da8c8, Cond.instanceMethod yJ5_inflate_da8c8, Cond.initialized RJ5, Cond.code yJ5_inflate_da8c8 cJ5_inflate_da8c8 2 none, Cond.fieldLink RJ5 15 "java/lang/AbstractStringBuilder" "value" "[B", Cond.fieldLink RJ5 79 "java/lang/AbstractStringBuilder" "count" "I", Cond.methodLink RJ5 83 ⟨"java/lang/AbstractStringBuilder", "isLatin1", "()Z"⟩, Cond.sameMethod "java/lang/AbstractStringBuilder" "java/lang/AbstractStringBuilder" "isLatin1" "()Z", Cond.selects RJ4 ⟨"java/lang/AbstractStringBuilder", "isLatin1", "()Z"⟩ yJ5_isLatin1_aae02, Cond.instanceMethod yJ5_isLatin1_aae02, Cond.code yJ5_isLatin1_aae02 cJ5_isLatin1_aae02 1 (some .boolean), Cond.methodLink RJ5 26 yJ2_newBytesFor_77867, Cond.static yJ2_newBytesFor_77867]
def wsJ5_inflateIfNeededFor_a7421_r2 : List Cond := [Cond.initialized RJ2, Cond.code yJ2_newBytesFor_77867 cJ2_newBytesFor_77867 1 (some (.array .byte)), Cond.arrayClass .byte, Cond.methodLink RJ2 11 yJ2_newBytesLength_0f7a4, Cond.static yJ2_newBytesLength_0f7a4, Cond.code yJ2_newBytesLength_0f7a4 cJ2_newBytesLength_0f7a4 1 (some .int), Cond.constant RJ2 20 (1073741823), Cond.methodLink RJ5 125 yJ1_inflate_0e8fd, Cond.static yJ1_inflate_0e8fd, Cond.initialized RJ1, Cond.code yJ1_inflate_0e8fd cJ1_inflate_0e8fd 5 none, Cond.methodLink RJ1 240 yJ2_inflate_0e8fd, Cond.static yJ2_inflate_0e8fd, Cond.code yJ2_inflate_0e8fd cJ2_inflate_0e8fd 6 none, Cond.methodLink RJ2 173 yJ2_checkBoundsOffCount_d044e, Cond.static yJ2_checkBoundsOffCount_d044e, Cond.code yJ2_checkBoundsOffCount_d044e cJ2_checkBoundsOffCount_d044e 3 none, Cond.methodLink RJ2 48 yJ2_length_9d52b, Cond.static yJ2_length_9d52b, Cond.code yJ2_length_9d52b cJ2_length_9d52b 1 (some .int), Cond.methodLink RJ2 419 yJ0_checkBoundsOffCount_cabcc, Cond.static yJ0_checkBoundsOffCount_cabcc, Cond.code yJ0_checkBoundsOffCount_cabcc cJ0_checkBoundsOffCount_cabcc 3 (some .int), Cond.fieldLink RJ0 1053 "jdk/internal/util/Preconditions" "SIOOBE_FORMATTER" "Ljava/util/function/BiFunction;"]
def wsJ5_inflateIfNeededFor_a7421_r3 : List Cond := [Cond.methodLink RJ0 1065 yJ3_checkFromIndexSize_8c36e, Cond.static yJ3_checkFromIndexSize_8c36e, Cond.initialized RJ3, Cond.code yJ3_checkFromIndexSize_8c36e cJ3_checkFromIndexSize_8c36e 4 (some .int), Cond.methodLink RJ2 111 yJ2_putChar_b72d1, Cond.static yJ2_putChar_b72d1, Cond.code yJ2_putChar_b72d1 cJ2_putChar_b72d1 3 none, Cond.fieldLink RJ2 44 "java/lang/StringUTF16" "$assertionsDisabled" "Z", Cond.fieldLink RJ2 59 "java/lang/StringUTF16" "HI_BYTE_SHIFT" "I", Cond.fieldLink RJ2 63 "java/lang/StringUTF16" "LO_BYTE_SHIFT" "I"]
def wsJ5_inflateIfNeededFor_a7421 : List Cond := .code yJ5_inflateIfNeededFor_a7421 cJ5_inflateIfNeededFor_a7421 2 none :: ((wsJ5_inflateIfNeededFor_a7421_r1 ++ (wsJ5_inflateIfNeededFor_a7421_r2 ++ wsJ5_inflateIfNeededFor_a7421_r3)) ++ wsJ40 ++ wsJ00)
def wsJ0_getBytes_840e7_r1 : List Cond := [Cond.fieldLink RJ0 9 "java/lang/String" "value" "[B", Cond.methodLink RJ0 212 arraycopyName, Cond.native arraycopyName, Cond.static arraycopyName, Cond.initialized "java/lang/System", Cond.methodLink RJ0 335 yJ0_coder_7d493, Cond.instanceMethod yJ0_coder_7d493, Cond.selects RJ0 yJ0_coder_7d493 yJ0_coder_7d493, Cond.initialized RJ0, Cond.code yJ0_coder_7d493 cJ0_coder_7d493 1 (some .byte), Cond.fieldLink RJ0 38 "java/lang/String" "COMPACT_STRINGS" "Z", Cond.fieldLink RJ0 15 "java/lang/String" "coder" "B", Cond.methodLink RJ0 106 yJ1_inflate_0e8fd, Cond.static yJ1_inflate_0e8fd, Cond.initialized RJ1, Cond.code yJ1_inflate_0e8fd cJ1_inflate_0e8fd 5 none, Cond.methodLink RJ1 240 yJ2_inflate_0e8fd, Cond.static yJ2_inflate_0e8fd, Cond.initialized RJ2, Cond.code yJ2_inflate_0e8fd cJ2_inflate_0e8fd 6 none, Cond.methodLink RJ2 173 yJ2_checkBoundsOffCount_d044e, Cond.static yJ2_checkBoundsOffCount_d044e, Cond.code yJ2_checkBoundsOffCount_d044e cJ2_checkBoundsOffCount_d044e 3 none, Cond.methodLink RJ2 48 yJ2_length_9d52b]
def wsJ0_getBytes_840e7_r2 : List Cond := [Cond.static yJ2_length_9d52b, Cond.code yJ2_length_9d52b cJ2_length_9d52b 1 (some .int), Cond.methodLink RJ2 419 yJ0_checkBoundsOffCount_cabcc, Cond.static yJ0_checkBoundsOffCount_cabcc, Cond.code yJ0_checkBoundsOffCount_cabcc cJ0_checkBoundsOffCount_cabcc 3 (some .int), Cond.fieldLink RJ0 1053 "jdk/internal/util/Preconditions" "SIOOBE_FORMATTER" "Ljava/util/function/BiFunction;", Cond.methodLink RJ0 1065 yJ3_checkFromIndexSize_8c36e, Cond.static yJ3_checkFromIndexSize_8c36e, Cond.initialized RJ3, Cond.code yJ3_checkFromIndexSize_8c36e cJ3_checkFromIndexSize_8c36e 4 (some .int), Cond.methodLink RJ2 111 yJ2_putChar_b72d1, Cond.static yJ2_putChar_b72d1, Cond.code yJ2_putChar_b72d1 cJ2_putChar_b72d1 3 none, Cond.fieldLink RJ2 44 "java/lang/StringUTF16" "$assertionsDisabled" "Z", Cond.fieldLink RJ2 59 "java/lang/StringUTF16" "HI_BYTE_SHIFT" "I", Cond.fieldLink RJ2 63 "java/lang/StringUTF16" "LO_BYTE_SHIFT" "I"]
def wsJ0_getBytes_840e7 : List Cond := .code yJ0_getBytes_840e7 cJ0_getBytes_840e7 4 none :: ((wsJ0_getBytes_840e7_r1 ++ wsJ0_getBytes_840e7_r2) ++ wsJ00)
def wsJ5_putStringAt_47b60_r1 : List Cond := [Cond.fieldLink RJ5 15 "java/lang/AbstractStringBuilder" "value" "[B", Cond.fieldLink RJ5 22 "java/lang/AbstractStringBuilder" "coder" "B", Cond.methodLink RJ5 397 ⟨"java/lang/AbstractStringBuilder", "inflateIfNeededFor", "(Ljava/lang/String;)V"⟩, Cond.sameMethod "java/lang/AbstractStringBuilder" "java/lang/AbstractStringBuilder" "inflateIfNeededFor" "(Ljava/lang/String;)V", Cond.selects RJ4 ⟨"java/lang/AbstractStringBuilder", "inflateIfNeededFor", "(Ljava/lang/String;)V"⟩ yJ5_inflateIfNeededFor_a7421, Cond.instanceMethod yJ5_inflateIfNeededFor_a7421, Cond.initialized RJ5, Cond.code yJ5_inflateIfNeededFor_a7421 cJ5_inflateIfNeededFor_a7421 2 none, Cond.fieldLink RJ5 18 "java/lang/String" "COMPACT_STRINGS" "Z", Cond.methodLink RJ5 40 yJ0_coder_7d493, Cond.instanceMethod yJ0_coder_7d493, Cond.selects RJ0 yJ0_coder_7d493 yJ0_coder_7d493, Cond.initialized RJ0, Cond.code yJ0_coder_7d493 cJ0_coder_7d493 1 (some .byte), Cond.fieldLink RJ0 38 "java/lang/String" "COMPACT_STRINGS" "Z", Cond.fieldLink RJ0 15 "java/lang/String" "coder" "B", Cond.methodLink RJ5 195 ⟨"java/lang/AbstractStringBuilder", "inflate", "()V"⟩, Cond.sameMethod "java/lang/AbstractStringBuilder" "java/lang/AbstractStringBuilder" "inflate" "()V", Cond.selects RJ4 ⟨"java/lang/AbstractStringBuilder", "inflate", "()V"⟩ yJ5_inflate_da8c8, Cond.instanceMethod yJ5_inflate_da8c8, Cond.code yJ5_inflate_da8c8 cJ5_inflate_da8c8 2 none, Cond.fieldLink RJ5 79 "java/lang/AbstractStringBuilder" "count" "I", Cond.methodLink RJ5 83 ⟨"java/lang/AbstractStringBuilder", "isLatin1", "()Z"⟩, Cond.sameMethod "java/lang/AbstractStringBuilder" "java/lang/AbstractStringBuilder" "isLatin1" "()Z"]
def wsJ5_putStringAt_47b60_r2 : List Cond := [Cond.selects RJ4 ⟨"java/lang/AbstractStringBuilder", "isLatin1", "()Z"⟩ yJ5_isLatin1_aae02, Cond.instanceMethod yJ5_isLatin1_aae02, Cond.code yJ5_isLatin1_aae02 cJ5_isLatin1_aae02 1 (some .boolean), Cond.methodLink RJ5 26 yJ2_newBytesFor_77867, Cond.static yJ2_newBytesFor_77867, Cond.initialized RJ2, Cond.code yJ2_newBytesFor_77867 cJ2_newBytesFor_77867 1 (some (.array .byte)), Cond.arrayClass .byte, Cond.methodLink RJ2 11 yJ2_newBytesLength_0f7a4, Cond.static yJ2_newBytesLength_0f7a4, Cond.code yJ2_newBytesLength_0f7a4 cJ2_newBytesLength_0f7a4 1 (some .int), Cond.constant RJ2 20 (1073741823), Cond.methodLink RJ5 125 yJ1_inflate_0e8fd, Cond.static yJ1_inflate_0e8fd, Cond.initialized RJ1, Cond.code yJ1_inflate_0e8fd cJ1_inflate_0e8fd 5 none, Cond.methodLink RJ1 240 yJ2_inflate_0e8fd, Cond.static yJ2_inflate_0e8fd, Cond.code yJ2_inflate_0e8fd cJ2_inflate_0e8fd 6 none, Cond.methodLink RJ2 173 yJ2_checkBoundsOffCount_d044e, Cond.static yJ2_checkBoundsOffCount_d044e, Cond.code yJ2_checkBoundsOffCount_d044e cJ2_checkBoundsOffCount_d044e 3 none, Cond.methodLink RJ2 48 yJ2_length_9d52b, Cond.static yJ2_length_9d52b]
def wsJ5_putStringAt_47b60_r3 : List Cond := [Cond.code yJ2_length_9d52b cJ2_length_9d52b 1 (some .int), Cond.methodLink RJ2 419 yJ0_checkBoundsOffCount_cabcc, Cond.static yJ0_checkBoundsOffCount_cabcc, Cond.code yJ0_checkBoundsOffCount_cabcc cJ0_checkBoundsOffCount_cabcc 3 (some .int), Cond.fieldLink RJ0 1053 "jdk/internal/util/Preconditions" "SIOOBE_FORMATTER" "Ljava/util/function/BiFunction;", Cond.methodLink RJ0 1065 yJ3_checkFromIndexSize_8c36e, Cond.static yJ3_checkFromIndexSize_8c36e, Cond.initialized RJ3, Cond.code yJ3_checkFromIndexSize_8c36e cJ3_checkFromIndexSize_8c36e 4 (some .int), Cond.methodLink RJ2 111 yJ2_putChar_b72d1, Cond.static yJ2_putChar_b72d1, Cond.code yJ2_putChar_b72d1 cJ2_putChar_b72d1 3 none, Cond.fieldLink RJ2 44 "java/lang/StringUTF16" "$assertionsDisabled" "Z", Cond.fieldLink RJ2 59 "java/lang/StringUTF16" "HI_BYTE_SHIFT" "I", Cond.fieldLink RJ2 63 "java/lang/StringUTF16" "LO_BYTE_SHIFT" "I", Cond.methodLink RJ5 399 yJ0_getBytes_840e7, Cond.instanceMethod yJ0_getBytes_840e7, Cond.selects RJ0 yJ0_getBytes_840e7 yJ0_getBytes_840e7, Cond.code yJ0_getBytes_840e7 cJ0_getBytes_840e7 4 none, Cond.fieldLink RJ0 9 "java/lang/String" "value" "[B", Cond.methodLink RJ0 212 arraycopyName, Cond.native arraycopyName, Cond.static arraycopyName, Cond.initialized "java/lang/System"]
def wsJ5_putStringAt_47b60_r4 : List Cond := [Cond.methodLink RJ0 335 yJ0_coder_7d493, Cond.methodLink RJ0 106 yJ1_inflate_0e8fd]
def wsJ5_putStringAt_47b60 : List Cond := .code yJ5_putStringAt_47b60 cJ5_putStringAt_47b60 3 none :: ((wsJ5_putStringAt_47b60_r1 ++ (wsJ5_putStringAt_47b60_r2 ++ (wsJ5_putStringAt_47b60_r3 ++ wsJ5_putStringAt_47b60_r4))) ++ wsJ40 ++ wsJ00)
def wsJ5_append_cf1ce_r1 : List Cond := [Cond.fieldLink RJ5 79 "java/lang/AbstractStringBuilder" "count" "I", Cond.methodLink RJ5 204 ⟨"java/lang/AbstractStringBuilder", "appendNull", "()Ljava/lang/AbstractStringBuilder;"⟩, Cond.sameMethod "java/lang/AbstractStringBuilder" "java/lang/AbstractStringBuilder" "appendNull" "()Ljava/lang/AbstractStringBuilder;", Cond.selects RJ4 ⟨"java/lang/AbstractStringBuilder", "appendNull", "()Ljava/lang/AbstractStringBuilder;"⟩ yJ5_appendNull_278bc, Cond.instanceMethod yJ5_appendNull_278bc, Cond.initialized RJ5, Cond.code yJ5_appendNull_278bc cJ5_appendNull_278bc 3 (some (.object "java/lang/AbstractStringBuilder")), Cond.fieldLink RJ5 15 "java/lang/AbstractStringBuilder" "value" "[B", Cond.methodLink RJ5 100 ⟨"java/lang/AbstractStringBuilder", "ensureCapacityInternal", "(I)V"⟩, Cond.sameMethod "java/lang/AbstractStringBuilder" "java/lang/AbstractStringBuilder" "ensureCapacityInternal" "(I)V", Cond.selects RJ4 ⟨"java/lang/AbstractStringBuilder", "ensureCapacityInternal", "(I)V"⟩ yJ5_ensureCapacityInternal_d00df, Cond.instanceMethod yJ5_ensureCapacityInternal_d00df, Cond.code yJ5_ensureCapacityInternal_d00df cJ5_ensureCapacityInternal_d00df 3 none, Cond.fieldLink RJ5 22 "java/lang/AbstractStringBuilder" "coder" "B", Cond.methodLink RJ5 104 ⟨"java/lang/AbstractStringBuilder", "newCapacity", "(I)I"⟩, Cond.sameMethod "java/lang/AbstractStringBuilder" "java/lang/AbstractStringBuilder" "newCapacity" "(I)I", Cond.selects RJ4 ⟨"java/lang/AbstractStringBuilder", "newCapacity", "(I)I"⟩ yJ5_newCapacity_0f7a4, Cond.instanceMethod yJ5_newCapacity_0f7a4, Cond.code yJ5_newCapacity_0f7a4 cJ5_newCapacity_0f7a4 6 (some .int), Cond.constant RJ5 39 (2147483647), Cond.methodLink RJ5 114 yJ8_newLength_cabcc, Cond.static yJ8_newLength_cabcc, Cond.initialized RJ8, Cond.code yJ8_newLength_cabcc cJ8_newLength_cabcc 4 (some .int)]
def wsJ5_append_cf1ce_r2 : List Cond := [Cond.methodLink RJ8 194 Lib.Math.max.name, Cond.static Lib.Math.max.name, Cond.initialized "java/lang/Math", Cond.code Lib.Math.max.name Lib.Math.max.code 2 (some .int), Cond.constant RJ8 200 (2147483639), Cond.methodLink RJ8 201 yJ8_hugeLength_7cf53, Cond.static yJ8_hugeLength_7cf53, Cond.code yJ8_hugeLength_7cf53 cJ8_hugeLength_7cf53 3 (some .int), Cond.methodLink RJ5 108 yJ7_copyOf_9075b, Cond.static yJ7_copyOf_9075b, Cond.initialized RJ7, Cond.code yJ7_copyOf_9075b cJ7_copyOf_9075b 3 (some (.array .byte)), Cond.methodLink RJ7 310 ⟨"[B", "clone", "()Ljava/lang/Object;"⟩, Cond.sameMethod "[B" "java/lang/Object" "clone" "()Ljava/lang/Object;", Cond.native ⟨"java/lang/Object", "clone", "()Ljava/lang/Object;"⟩, Cond.instanceMethod ⟨"java/lang/Object", "clone", "()Ljava/lang/Object;"⟩, Cond.selects "[B" ⟨"[B", "clone", "()Ljava/lang/Object;"⟩ ⟨"java/lang/Object", "clone", "()Ljava/lang/Object;"⟩, Cond.classLink RJ7 311 "[B", Cond.arrayClass .byte, Cond.methodLink RJ7 304 Lib.Math.min.name, Cond.static Lib.Math.min.name, Cond.code Lib.Math.min.name Lib.Math.min.code 2 (some .int), Cond.methodLink RJ7 150 arraycopyName, Cond.native arraycopyName]
def wsJ5_append_cf1ce_r3 : List Cond := [Cond.static arraycopyName, Cond.initialized "java/lang/System", Cond.methodLink RJ5 83 ⟨"java/lang/AbstractStringBuilder", "isLatin1", "()Z"⟩, Cond.sameMethod "java/lang/AbstractStringBuilder" "java/lang/AbstractStringBuilder" "isLatin1" "()Z", Cond.selects RJ4 ⟨"java/lang/AbstractStringBuilder", "isLatin1", "()Z"⟩ yJ5_isLatin1_aae02, Cond.instanceMethod yJ5_isLatin1_aae02, Cond.code yJ5_isLatin1_aae02 cJ5_isLatin1_aae02 1 (some .boolean), Cond.fieldLink RJ5 18 "java/lang/String" "COMPACT_STRINGS" "Z", Cond.methodLink RJ5 226 yJ2_putCharsAt_cd4e5, Cond.static yJ2_putCharsAt_cd4e5, Cond.initialized RJ2, Cond.code yJ2_putCharsAt_cd4e5 cJ2_putCharsAt_cd4e5 7 (some .int), Cond.fieldLink RJ2 44 "java/lang/StringUTF16" "$assertionsDisabled" "Z", Cond.methodLink RJ2 96 yJ2_checkBoundsBeginEnd_d044e, Cond.static yJ2_checkBoundsBeginEnd_d044e, Cond.code yJ2_checkBoundsBeginEnd_d044e cJ2_checkBoundsBeginEnd_d044e 3 none, Cond.methodLink RJ2 48 yJ2_length_9d52b, Cond.static yJ2_length_9d52b, Cond.code yJ2_length_9d52b cJ2_length_9d52b 1 (some .int), Cond.methodLink RJ2 241 yJ0_checkBoundsBeginEnd_23922, Cond.static yJ0_checkBoundsBeginEnd_23922, Cond.initialized RJ0, Cond.code yJ0_checkBoundsBeginEnd_23922 cJ0_checkBoundsBeginEnd_23922 3 none, Cond.fieldLink RJ0 1053 "jdk/internal/util/Preconditions" "SIOOBE_FORMATTER" "Ljava/util/function/BiFunction;"]
def wsJ5_append_cf1ce_r4 : List Cond := [Cond.methodLink RJ0 1062 yJ3_checkFromToIndex_8c36e, Cond.static yJ3_checkFromToIndex_8c36e, Cond.initialized RJ3, Cond.code yJ3_checkFromToIndex_8c36e cJ3_checkFromToIndex_8c36e 4 (some .int), Cond.methodLink RJ2 111 yJ2_putChar_b72d1, Cond.static yJ2_putChar_b72d1, Cond.code yJ2_putChar_b72d1 cJ2_putChar_b72d1 3 none, Cond.fieldLink RJ2 59 "java/lang/StringUTF16" "HI_BYTE_SHIFT" "I", Cond.fieldLink RJ2 63 "java/lang/StringUTF16" "LO_BYTE_SHIFT" "I", Cond.methodLink RJ5 32 yJ0_length_8abf5, Cond.instanceMethod yJ0_length_8abf5, Cond.selects RJ0 yJ0_length_8abf5 yJ0_length_8abf5, Cond.code yJ0_length_8abf5 cJ0_length_8abf5 1 (some .int), Cond.fieldLink RJ0 9 "java/lang/String" "value" "[B", Cond.methodLink RJ0 335 yJ0_coder_7d493, Cond.instanceMethod yJ0_coder_7d493, Cond.selects RJ0 yJ0_coder_7d493 yJ0_coder_7d493, Cond.code yJ0_coder_7d493 cJ0_coder_7d493 1 (some .byte), Cond.fieldLink RJ0 38 "java/lang/String" "COMPACT_STRINGS" "Z", Cond.fieldLink RJ0 15 "java/lang/String" "coder" "B", Cond.methodLink RJ5 208 ⟨"java/lang/AbstractStringBuilder", "putStringAt", "(ILjava/lang/String;)V"⟩, Cond.sameMethod "java/lang/AbstractStringBuilder" "java/lang/AbstractStringBuilder" "putStringAt" "(ILjava/lang/String;)V", Cond.selects RJ4 ⟨"java/lang/AbstractStringBuilder", "putStringAt", "(ILjava/lang/String;)V"⟩ yJ5_putStringAt_47b60, Cond.instanceMethod yJ5_putStringAt_47b60]
def wsJ5_append_cf1ce_r5 : List Cond := [Cond.code yJ5_putStringAt_47b60 cJ5_putStringAt_47b60 3 none, Cond.methodLink RJ5 397 ⟨"java/lang/AbstractStringBuilder", "inflateIfNeededFor", "(Ljava/lang/String;)V"⟩, Cond.sameMethod "java/lang/AbstractStringBuilder" "java/lang/AbstractStringBuilder" "inflateIfNeededFor" "(Ljava/lang/String;)V", Cond.selects RJ4 ⟨"java/lang/AbstractStringBuilder", "inflateIfNeededFor", "(Ljava/lang/String;)V"⟩ yJ5_inflateIfNeededFor_a7421, Cond.instanceMethod yJ5_inflateIfNeededFor_a7421, Cond.code yJ5_inflateIfNeededFor_a7421 cJ5_inflateIfNeededFor_a7421 2 none, Cond.methodLink RJ5 40 yJ0_coder_7d493, Cond.methodLink RJ5 195 ⟨"java/lang/AbstractStringBuilder", "inflate", "()V"⟩, Cond.sameMethod "java/lang/AbstractStringBuilder" "java/lang/AbstractStringBuilder" "inflate" "()V", Cond.selects RJ4 ⟨"java/lang/AbstractStringBuilder", "inflate", "()V"⟩ yJ5_inflate_da8c8, Cond.instanceMethod yJ5_inflate_da8c8, Cond.code yJ5_inflate_da8c8 cJ5_inflate_da8c8 2 none, Cond.methodLink RJ5 26 yJ2_newBytesFor_77867, Cond.static yJ2_newBytesFor_77867, Cond.code yJ2_newBytesFor_77867 cJ2_newBytesFor_77867 1 (some (.array .byte)), Cond.methodLink RJ2 11 yJ2_newBytesLength_0f7a4, Cond.static yJ2_newBytesLength_0f7a4, Cond.code yJ2_newBytesLength_0f7a4 cJ2_newBytesLength_0f7a4 1 (some .int), Cond.constant RJ2 20 (1073741823), Cond.methodLink RJ5 125 yJ1_inflate_0e8fd, Cond.static yJ1_inflate_0e8fd, Cond.initialized RJ1, Cond.code yJ1_inflate_0e8fd cJ1_inflate_0e8fd 5 none, Cond.methodLink RJ1 240 yJ2_inflate_0e8fd]
def wsJ5_append_cf1ce_r6 : List Cond := [Cond.static yJ2_inflate_0e8fd, Cond.code yJ2_inflate_0e8fd cJ2_inflate_0e8fd 6 none, Cond.methodLink RJ2 173 yJ2_checkBoundsOffCount_d044e, Cond.static yJ2_checkBoundsOffCount_d044e, Cond.code yJ2_checkBoundsOffCount_d044e cJ2_checkBoundsOffCount_d044e 3 none, Cond.methodLink RJ2 419 yJ0_checkBoundsOffCount_cabcc, Cond.static yJ0_checkBoundsOffCount_cabcc, Cond.code yJ0_checkBoundsOffCount_cabcc cJ0_checkBoundsOffCount_cabcc 3 (some .int), Cond.methodLink RJ0 1065 yJ3_checkFromIndexSize_8c36e, Cond.static yJ3_checkFromIndexSize_8c36e, Cond.code yJ3_checkFromIndexSize_8c36e cJ3_checkFromIndexSize_8c36e 4 (some .int), Cond.methodLink RJ5 399 yJ0_getBytes_840e7, Cond.instanceMethod yJ0_getBytes_840e7, Cond.selects RJ0 yJ0_getBytes_840e7 yJ0_getBytes_840e7, Cond.code yJ0_getBytes_840e7 cJ0_getBytes_840e7 4 none, Cond.methodLink RJ0 212 arraycopyName, Cond.methodLink RJ0 106 yJ1_inflate_0e8fd]
def wsJ5_append_cf1ce : List Cond := .code yJ5_append_cf1ce cJ5_append_cf1ce 3 (some (.object "java/lang/AbstractStringBuilder")) :: ((wsJ5_append_cf1ce_r1 ++ (wsJ5_append_cf1ce_r2 ++ (wsJ5_append_cf1ce_r3 ++ (wsJ5_append_cf1ce_r4 ++ (wsJ5_append_cf1ce_r5 ++ wsJ5_append_cf1ce_r6))))) ++ wsJ40 ++ wsJ00)
def wsJ6_stringSize_0f7a4 : List Cond := .code yJ6_stringSize_0f7a4 cJ6_stringSize_0f7a4 4 (some .int) :: ([])
def wsJ6_getChars_ba4f3 : List Cond := .code yJ6_getChars_ba4f3 cJ6_getChars_ba4f3 7 (some .int) :: ([.fieldLink RJ6 83 "java/lang/Integer" "DigitOnes" "[B", .fieldLink RJ6 87 "java/lang/Integer" "DigitTens" "[B"])
def wsJ2_getChars_ba4f3 : List Cond := .code yJ2_getChars_ba4f3 cJ2_getChars_ba4f3 7 (some .int) :: ([.fieldLink RJ2 403 "java/lang/Integer" "DigitOnes" "[B", .fieldLink RJ2 407 "java/lang/Integer" "DigitTens" "[B", .methodLink RJ2 111 yJ2_putChar_b72d1, .static yJ2_putChar_b72d1, .initialized RJ2, .code yJ2_putChar_b72d1 cJ2_putChar_b72d1 3 none, .fieldLink RJ2 44 "java/lang/StringUTF16" "$assertionsDisabled" "Z", .fieldLink RJ2 59 "java/lang/StringUTF16" "HI_BYTE_SHIFT" "I", .fieldLink RJ2 63 "java/lang/StringUTF16" "LO_BYTE_SHIFT" "I", .methodLink RJ2 48 yJ2_length_9d52b, .static yJ2_length_9d52b, .code yJ2_length_9d52b cJ2_length_9d52b 1 (some .int)])
def wsJ2_getChars_46870_r1 : List Cond := [Cond.fieldLink RJ2 44 "java/lang/StringUTF16" "$assertionsDisabled" "Z", Cond.methodLink RJ2 96 yJ2_checkBoundsBeginEnd_d044e, Cond.static yJ2_checkBoundsBeginEnd_d044e, Cond.initialized RJ2, Cond.code yJ2_checkBoundsBeginEnd_d044e cJ2_checkBoundsBeginEnd_d044e 3 none, Cond.methodLink RJ2 48 yJ2_length_9d52b, Cond.static yJ2_length_9d52b, Cond.code yJ2_length_9d52b cJ2_length_9d52b 1 (some .int), Cond.methodLink RJ2 241 yJ0_checkBoundsBeginEnd_23922, Cond.static yJ0_checkBoundsBeginEnd_23922, Cond.initialized RJ0, Cond.code yJ0_checkBoundsBeginEnd_23922 cJ0_checkBoundsBeginEnd_23922 3 none, Cond.fieldLink RJ0 1053 "jdk/internal/util/Preconditions" "SIOOBE_FORMATTER" "Ljava/util/function/BiFunction;", Cond.methodLink RJ0 1062 yJ3_checkFromToIndex_8c36e, Cond.static yJ3_checkFromToIndex_8c36e, Cond.initialized RJ3, Cond.code yJ3_checkFromToIndex_8c36e cJ3_checkFromToIndex_8c36e 4 (some .int), Cond.methodLink RJ2 393 yJ2_getChars_ba4f3, Cond.static yJ2_getChars_ba4f3, Cond.code yJ2_getChars_ba4f3 cJ2_getChars_ba4f3 7 (some .int), Cond.fieldLink RJ2 403 "java/lang/Integer" "DigitOnes" "[B", Cond.fieldLink RJ2 407 "java/lang/Integer" "DigitTens" "[B", Cond.methodLink RJ2 111 yJ2_putChar_b72d1, Cond.static yJ2_putChar_b72d1]
def wsJ2_getChars_46870_r2 : List Cond := [Cond.code yJ2_putChar_b72d1 cJ2_putChar_b72d1 3 none, Cond.fieldLink RJ2 59 "java/lang/StringUTF16" "HI_BYTE_SHIFT" "I", Cond.fieldLink RJ2 63 "java/lang/StringUTF16" "LO_BYTE_SHIFT" "I"]
def wsJ2_getChars_46870 : List Cond := .code yJ2_getChars_46870 cJ2_getChars_46870 5 (some .int) :: ((wsJ2_getChars_46870_r1 ++ wsJ2_getChars_46870_r2))
def wsJ5_append_c97b9_r1 : List Cond := [Cond.fieldLink RJ5 79 "java/lang/AbstractStringBuilder" "count" "I", Cond.fieldLink RJ5 15 "java/lang/AbstractStringBuilder" "value" "[B", Cond.methodLink RJ5 245 yJ6_stringSize_0f7a4, Cond.static yJ6_stringSize_0f7a4, Cond.initialized RJ6, Cond.code yJ6_stringSize_0f7a4 cJ6_stringSize_0f7a4 4 (some .int), Cond.methodLink RJ5 100 ⟨"java/lang/AbstractStringBuilder", "ensureCapacityInternal", "(I)V"⟩, Cond.sameMethod "java/lang/AbstractStringBuilder" "java/lang/AbstractStringBuilder" "ensureCapacityInternal" "(I)V", Cond.selects RJ4 ⟨"java/lang/AbstractStringBuilder", "ensureCapacityInternal", "(I)V"⟩ yJ5_ensureCapacityInternal_d00df, Cond.instanceMethod yJ5_ensureCapacityInternal_d00df, Cond.initialized RJ5, Cond.code yJ5_ensureCapacityInternal_d00df cJ5_ensureCapacityInternal_d00df 3 none, Cond.fieldLink RJ5 22 "java/lang/AbstractStringBuilder" "coder" "B", Cond.methodLink RJ5 104 ⟨"java/lang/AbstractStringBuilder", "newCapacity", "(I)I"⟩, Cond.sameMethod "java/lang/AbstractStringBuilder" "java/lang/AbstractStringBuilder" "newCapacity" "(I)I", Cond.selects RJ4 ⟨"java/lang/AbstractStringBuilder", "newCapacity", "(I)I"⟩ yJ5_newCapacity_0f7a4, Cond.instanceMethod yJ5_newCapacity_0f7a4, Cond.code yJ5_newCapacity_0f7a4 cJ5_newCapacity_0f7a4 6 (some .int), Cond.constant RJ5 39 (2147483647), Cond.methodLink RJ5 114 yJ8_newLength_cabcc, Cond.static yJ8_newLength_cabcc, Cond.initialized RJ8, Cond.code yJ8_newLength_cabcc cJ8_newLength_cabcc 4 (some .int), Cond.methodLink RJ8 194 Lib.Math.max.name]
def wsJ5_append_c97b9_r2 : List Cond := [Cond.static Lib.Math.max.name, Cond.initialized "java/lang/Math", Cond.code Lib.Math.max.name Lib.Math.max.code 2 (some .int), Cond.constant RJ8 200 (2147483639), Cond.methodLink RJ8 201 yJ8_hugeLength_7cf53, Cond.static yJ8_hugeLength_7cf53, Cond.code yJ8_hugeLength_7cf53 cJ8_hugeLength_7cf53 3 (some .int), Cond.methodLink RJ5 108 yJ7_copyOf_9075b, Cond.static yJ7_copyOf_9075b, Cond.initialized RJ7, Cond.code yJ7_copyOf_9075b cJ7_copyOf_9075b 3 (some (.array .byte)), Cond.methodLink RJ7 310 ⟨"[B", "clone", "()Ljava/lang/Object;"⟩, Cond.sameMethod "[B" "java/lang/Object" "clone" "()Ljava/lang/Object;", Cond.native ⟨"java/lang/Object", "clone", "()Ljava/lang/Object;"⟩, Cond.instanceMethod ⟨"java/lang/Object", "clone", "()Ljava/lang/Object;"⟩, Cond.selects "[B" ⟨"[B", "clone", "()Ljava/lang/Object;"⟩ ⟨"java/lang/Object", "clone", "()Ljava/lang/Object;"⟩, Cond.classLink RJ7 311 "[B", Cond.arrayClass .byte, Cond.methodLink RJ7 304 Lib.Math.min.name, Cond.static Lib.Math.min.name, Cond.code Lib.Math.min.name Lib.Math.min.code 2 (some .int), Cond.methodLink RJ7 150 arraycopyName, Cond.native arraycopyName, Cond.static arraycopyName]
def wsJ5_append_c97b9_r3 : List Cond := [Cond.initialized "java/lang/System", Cond.methodLink RJ5 83 ⟨"java/lang/AbstractStringBuilder", "isLatin1", "()Z"⟩, Cond.sameMethod "java/lang/AbstractStringBuilder" "java/lang/AbstractStringBuilder" "isLatin1" "()Z", Cond.selects RJ4 ⟨"java/lang/AbstractStringBuilder", "isLatin1", "()Z"⟩ yJ5_isLatin1_aae02, Cond.instanceMethod yJ5_isLatin1_aae02, Cond.code yJ5_isLatin1_aae02 cJ5_isLatin1_aae02 1 (some .boolean), Cond.fieldLink RJ5 18 "java/lang/String" "COMPACT_STRINGS" "Z", Cond.methodLink RJ5 248 yJ6_getChars_ba4f3, Cond.static yJ6_getChars_ba4f3, Cond.code yJ6_getChars_ba4f3 cJ6_getChars_ba4f3 7 (some .int), Cond.fieldLink RJ6 83 "java/lang/Integer" "DigitOnes" "[B", Cond.fieldLink RJ6 87 "java/lang/Integer" "DigitTens" "[B", Cond.methodLink RJ5 251 yJ2_getChars_46870, Cond.static yJ2_getChars_46870, Cond.initialized RJ2, Cond.code yJ2_getChars_46870 cJ2_getChars_46870 5 (some .int), Cond.fieldLink RJ2 44 "java/lang/StringUTF16" "$assertionsDisabled" "Z", Cond.methodLink RJ2 96 yJ2_checkBoundsBeginEnd_d044e, Cond.static yJ2_checkBoundsBeginEnd_d044e, Cond.code yJ2_checkBoundsBeginEnd_d044e cJ2_checkBoundsBeginEnd_d044e 3 none, Cond.methodLink RJ2 48 yJ2_length_9d52b, Cond.static yJ2_length_9d52b, Cond.code yJ2_length_9d52b cJ2_length_9d52b 1 (some .int), Cond.methodLink RJ2 241 yJ0_checkBoundsBeginEnd_23922]
def wsJ5_append_c97b9_r4 : List Cond := [Cond.static yJ0_checkBoundsBeginEnd_23922, Cond.initialized RJ0, Cond.code yJ0_checkBoundsBeginEnd_23922 cJ0_checkBoundsBeginEnd_23922 3 none, Cond.fieldLink RJ0 1053 "jdk/internal/util/Preconditions" "SIOOBE_FORMATTER" "Ljava/util/function/BiFunction;", Cond.methodLink RJ0 1062 yJ3_checkFromToIndex_8c36e, Cond.static yJ3_checkFromToIndex_8c36e, Cond.initialized RJ3, Cond.code yJ3_checkFromToIndex_8c36e cJ3_checkFromToIndex_8c36e 4 (some .int), Cond.methodLink RJ2 393 yJ2_getChars_ba4f3, Cond.static yJ2_getChars_ba4f3, Cond.code yJ2_getChars_ba4f3 cJ2_getChars_ba4f3 7 (some .int), Cond.fieldLink RJ2 403 "java/lang/Integer" "DigitOnes" "[B", Cond.fieldLink RJ2 407 "java/lang/Integer" "DigitTens" "[B", Cond.methodLink RJ2 111 yJ2_putChar_b72d1, Cond.static yJ2_putChar_b72d1, Cond.code yJ2_putChar_b72d1 cJ2_putChar_b72d1 3 none, Cond.fieldLink RJ2 59 "java/lang/StringUTF16" "HI_BYTE_SHIFT" "I", Cond.fieldLink RJ2 63 "java/lang/StringUTF16" "LO_BYTE_SHIFT" "I"]
def wsJ5_append_c97b9 : List Cond := .code yJ5_append_c97b9 cJ5_append_c97b9 4 (some (.object "java/lang/AbstractStringBuilder")) :: ((wsJ5_append_c97b9_r1 ++ (wsJ5_append_c97b9_r2 ++ (wsJ5_append_c97b9_r3 ++ wsJ5_append_c97b9_r4))) ++ wsJ40)
def wsJ5_getValue_6d5f1 : List Cond := .code yJ5_getValue_6d5f1 cJ5_getValue_6d5f1 1 (some (.array .byte)) :: ([.fieldLink RJ5 15 "java/lang/AbstractStringBuilder" "value" "[B"] ++ wsJ40)
def wsJ9_max_7cf53 : List Cond := .code yJ9_max_7cf53 cJ9_max_7cf53 2 (some .int) :: ([])
def wsJ9_min_7cf53 : List Cond := .code yJ9_min_7cf53 cJ9_min_7cf53 2 (some .int) :: ([])
def wsJ4_length_8abf5 : List Cond := .code yJ4_length_8abf5 cJ4_length_8abf5 1 (some .int) :: ([.methodLink RJ4 343 yJ5_length_8abf5, .sameMethod "java/lang/AbstractStringBuilder" "java/lang/AbstractStringBuilder" "length" "()I", .superclass RJ4 RJ5, .instanceMethod yJ5_length_8abf5, .initialized RJ5, .code yJ5_length_8abf5 cJ5_length_8abf5 1 (some .int), .fieldLink RJ5 79 "java/lang/AbstractStringBuilder" "count" "I"] ++ wsJ40)
def wsJ7_checkLength_df160 : List Cond := .code yJ7_checkLength_df160 cJ7_checkLength_df160 2 none :: ([.classLink RJ7 45 RJ4, .instantiable RJ4 4, .initialized RJ4] ++ wsJ40)
def wsJ7_copyOfRangeByte_39247 : List Cond := .code yJ7_copyOfRangeByte_39247 cJ7_copyOfRangeByte_39247 5 (some (.array .byte)) :: ([.arrayClass .byte, .methodLink RJ7 304 Lib.Math.min.name, .static Lib.Math.min.name, .initialized "java/lang/Math", .code Lib.Math.min.name Lib.Math.min.code 2 (some .int), .methodLink RJ7 150 arraycopyName, .native arraycopyName, .static arraycopyName, .initialized "java/lang/System", .methodLink RJ7 343 yJ7_checkLength_df160, .static yJ7_checkLength_df160, .initialized RJ7, .code yJ7_checkLength_df160 cJ7_checkLength_df160 2 none, .classLink RJ7 45 RJ4, .instantiable RJ4 4, .initialized RJ4] ++ wsJ40)
def wsJ7_copyOfRange_39247_r1 : List Cond := [Cond.methodLink RJ7 310 ⟨"[B", "clone", "()Ljava/lang/Object;"⟩, Cond.sameMethod "[B" "java/lang/Object" "clone" "()Ljava/lang/Object;", Cond.native ⟨"java/lang/Object", "clone", "()Ljava/lang/Object;"⟩, Cond.instanceMethod ⟨"java/lang/Object", "clone", "()Ljava/lang/Object;"⟩, Cond.selects "[B" ⟨"[B", "clone", "()Ljava/lang/Object;"⟩ ⟨"java/lang/Object", "clone", "()Ljava/lang/Object;"⟩, Cond.classLink RJ7 311 "[B", Cond.methodLink RJ7 339 yJ7_copyOfRangeByte_39247, Cond.static yJ7_copyOfRangeByte_39247, Cond.initialized RJ7, Cond.code yJ7_copyOfRangeByte_39247 cJ7_copyOfRangeByte_39247 5 (some (.array .byte)), Cond.arrayClass .byte, Cond.methodLink RJ7 304 Lib.Math.min.name, Cond.static Lib.Math.min.name, Cond.initialized "java/lang/Math", Cond.code Lib.Math.min.name Lib.Math.min.code 2 (some .int), Cond.methodLink RJ7 150 arraycopyName, Cond.native arraycopyName, Cond.static arraycopyName, Cond.initialized "java/lang/System", Cond.methodLink RJ7 343 yJ7_checkLength_df160, Cond.static yJ7_checkLength_df160, Cond.code yJ7_checkLength_df160 cJ7_checkLength_df160 2 none, Cond.classLink RJ7 45 RJ4, Cond.instantiable RJ4 4]
def wsJ7_copyOfRange_39247_r2 : List Cond := [Cond.initialized RJ4]
def wsJ7_copyOfRange_39247 : List Cond := .code yJ7_copyOfRange_39247 cJ7_copyOfRange_39247 3 (some (.array .byte)) :: ((wsJ7_copyOfRange_39247_r1 ++ wsJ7_copyOfRange_39247_r2) ++ wsJ40)
def wsJ2_getChar_3b067 : List Cond := .code yJ2_getChar_3b067 cJ2_getChar_3b067 2 (some .char) :: ([.fieldLink RJ2 44 "java/lang/StringUTF16" "$assertionsDisabled" "Z", .fieldLink RJ2 59 "java/lang/StringUTF16" "HI_BYTE_SHIFT" "I", .fieldLink RJ2 63 "java/lang/StringUTF16" "LO_BYTE_SHIFT" "I", .methodLink RJ2 48 yJ2_length_9d52b, .static yJ2_length_9d52b, .initialized RJ2, .code yJ2_length_9d52b cJ2_length_9d52b 1 (some .int)])
def wsJ2_compress_5af95 : List Cond := .code yJ2_compress_5af95 cJ2_compress_5af95 7 (some .int) :: ([.methodLink RJ2 173 yJ2_checkBoundsOffCount_d044e, .static yJ2_checkBoundsOffCount_d044e, .initialized RJ2, .code yJ2_checkBoundsOffCount_d044e cJ2_checkBoundsOffCount_d044e 3 none, .methodLink RJ2 48 yJ2_length_9d52b, .static yJ2_length_9d52b, .code yJ2_length_9d52b cJ2_length_9d52b 1 (some .int), .methodLink RJ2 419 yJ0_checkBoundsOffCount_cabcc, .static yJ0_checkBoundsOffCount_cabcc, .initialized RJ0, .code yJ0_checkBoundsOffCount_cabcc cJ0_checkBoundsOffCount_cabcc 3 (some .int), .fieldLink RJ0 1053 "jdk/internal/util/Preconditions" "SIOOBE_FORMATTER" "Ljava/util/function/BiFunction;", .methodLink RJ0 1065 yJ3_checkFromIndexSize_8c36e, .static yJ3_checkFromIndexSize_8c36e, .initialized RJ3, .code yJ3_checkFromIndexSize_8c36e cJ3_checkFromIndexSize_8c36e 4 (some .int), .methodLink RJ2 71 yJ2_getChar_3b067, .static yJ2_getChar_3b067, .code yJ2_getChar_3b067 cJ2_getChar_3b067 2 (some .char), .fieldLink RJ2 44 "java/lang/StringUTF16" "$assertionsDisabled" "Z", .fieldLink RJ2 59 "java/lang/StringUTF16" "HI_BYTE_SHIFT" "I", .fieldLink RJ2 63 "java/lang/StringUTF16" "LO_BYTE_SHIFT" "I"])
def wsJ2_compress_39247_r1 : List Cond := [Cond.arrayClass .byte, Cond.methodLink RJ2 123 yJ2_compress_5af95, Cond.static yJ2_compress_5af95, Cond.initialized RJ2, Cond.code yJ2_compress_5af95 cJ2_compress_5af95 7 (some .int), Cond.methodLink RJ2 173 yJ2_checkBoundsOffCount_d044e, Cond.static yJ2_checkBoundsOffCount_d044e, Cond.code yJ2_checkBoundsOffCount_d044e cJ2_checkBoundsOffCount_d044e 3 none, Cond.methodLink RJ2 48 yJ2_length_9d52b, Cond.static yJ2_length_9d52b, Cond.code yJ2_length_9d52b cJ2_length_9d52b 1 (some .int), Cond.methodLink RJ2 419 yJ0_checkBoundsOffCount_cabcc, Cond.static yJ0_checkBoundsOffCount_cabcc, Cond.initialized RJ0, Cond.code yJ0_checkBoundsOffCount_cabcc cJ0_checkBoundsOffCount_cabcc 3 (some .int), Cond.fieldLink RJ0 1053 "jdk/internal/util/Preconditions" "SIOOBE_FORMATTER" "Ljava/util/function/BiFunction;", Cond.methodLink RJ0 1065 yJ3_checkFromIndexSize_8c36e, Cond.static yJ3_checkFromIndexSize_8c36e, Cond.initialized RJ3, Cond.code yJ3_checkFromIndexSize_8c36e cJ3_checkFromIndexSize_8c36e 4 (some .int), Cond.methodLink RJ2 71 yJ2_getChar_3b067, Cond.static yJ2_getChar_3b067, Cond.code yJ2_getChar_3b067 cJ2_getChar_3b067 2 (some .char), Cond.fieldLink RJ2 44 "java/lang/StringUTF16" "$assertionsDisabled" "Z"]
def wsJ2_compress_39247_r2 : List Cond := [Cond.fieldLink RJ2 59 "java/lang/StringUTF16" "HI_BYTE_SHIFT" "I", Cond.fieldLink RJ2 63 "java/lang/StringUTF16" "LO_BYTE_SHIFT" "I", Cond.methodLink RJ2 11 yJ2_newBytesLength_0f7a4, Cond.static yJ2_newBytesLength_0f7a4, Cond.code yJ2_newBytesLength_0f7a4 cJ2_newBytesLength_0f7a4 1 (some .int), Cond.constant RJ2 20 (1073741823), Cond.methodLink RJ2 126 yJ7_copyOfRange_39247, Cond.static yJ7_copyOfRange_39247, Cond.initialized RJ7, Cond.code yJ7_copyOfRange_39247 cJ7_copyOfRange_39247 3 (some (.array .byte)), Cond.methodLink RJ7 310 ⟨"[B", "clone", "()Ljava/lang/Object;"⟩, Cond.sameMethod "[B" "java/lang/Object" "clone" "()Ljava/lang/Object;", Cond.native ⟨"java/lang/Object", "clone", "()Ljava/lang/Object;"⟩, Cond.instanceMethod ⟨"java/lang/Object", "clone", "()Ljava/lang/Object;"⟩, Cond.selects "[B" ⟨"[B", "clone", "()Ljava/lang/Object;"⟩ ⟨"java/lang/Object", "clone", "()Ljava/lang/Object;"⟩, Cond.classLink RJ7 311 "[B", Cond.methodLink RJ7 339 yJ7_copyOfRangeByte_39247, Cond.static yJ7_copyOfRangeByte_39247, Cond.code yJ7_copyOfRangeByte_39247 cJ7_copyOfRangeByte_39247 5 (some (.array .byte)), Cond.methodLink RJ7 304 Lib.Math.min.name, Cond.static Lib.Math.min.name, Cond.initialized "java/lang/Math", Cond.code Lib.Math.min.name Lib.Math.min.code 2 (some .int), Cond.methodLink RJ7 150 arraycopyName]
def wsJ2_compress_39247_r3 : List Cond := [Cond.native arraycopyName, Cond.static arraycopyName, Cond.initialized "java/lang/System", Cond.methodLink RJ7 343 yJ7_checkLength_df160, Cond.static yJ7_checkLength_df160, Cond.code yJ7_checkLength_df160 cJ7_checkLength_df160 2 none, Cond.classLink RJ7 45 RJ4, Cond.instantiable RJ4 4, Cond.initialized RJ4]
def wsJ2_compress_39247 : List Cond := .code yJ2_compress_39247 cJ2_compress_39247 6 (some (.array .byte)) :: ((wsJ2_compress_39247_r1 ++ (wsJ2_compress_39247_r2 ++ wsJ2_compress_39247_r3)) ++ wsJ40)
def wsJ2_coderFromArrayLen_85cad : List Cond := .code yJ2_coderFromArrayLen_85cad cJ2_coderFromArrayLen_85cad 2 (some .byte) :: ([])
def wsJ0_init_db425_r1 : List Cond := [Cond.methodLink RJ0 1 objectInit, Cond.instanceMethod objectInit, Cond.code objectInit ⟨#[0xb1]⟩ 1 none, Cond.fieldLink RJ0 15 "java/lang/String" "coder" "B", Cond.fieldLink RJ0 9 "java/lang/String" "value" "[B", Cond.fieldLink RJ0 38 "java/lang/String" "COMPACT_STRINGS" "Z", Cond.fieldLink RJ0 1048 "java/lang/AbstractStringBuilder" "maybeLatin1" "Z", Cond.methodLink RJ0 552 ⟨"java/lang/AbstractStringBuilder", "getValue", "()[B"⟩, Cond.sameMethod "java/lang/AbstractStringBuilder" "java/lang/AbstractStringBuilder" "getValue" "()[B", Cond.selects RJ4 ⟨"java/lang/AbstractStringBuilder", "getValue", "()[B"⟩ yJ5_getValue_6d5f1, Cond.instanceMethod yJ5_getValue_6d5f1, Cond.initialized RJ5, Cond.code yJ5_getValue_6d5f1 cJ5_getValue_6d5f1 1 (some (.array .byte)), Cond.fieldLink RJ5 15 "java/lang/AbstractStringBuilder" "value" "[B", Cond.methodLink RJ0 549 ⟨"java/lang/AbstractStringBuilder", "length", "()I"⟩, Cond.sameMethod "java/lang/AbstractStringBuilder" "java/lang/AbstractStringBuilder" "length" "()I", Cond.instanceMethod ⟨"java/lang/AbstractStringBuilder", "length", "()I"⟩, Cond.selects RJ4 ⟨"java/lang/AbstractStringBuilder", "length", "()I"⟩ yJ4_length_8abf5, Cond.instanceMethod yJ4_length_8abf5, Cond.initialized RJ4, Cond.code yJ4_length_8abf5 cJ4_length_8abf5 1 (some .int), Cond.methodLink RJ4 343 yJ5_length_8abf5, Cond.superclass RJ4 RJ5, Cond.instanceMethod yJ5_length_8abf5]
def wsJ0_init_db425_r2 : List Cond := [Cond.code yJ5_length_8abf5 cJ5_length_8abf5 1 (some .int), Cond.fieldLink RJ5 79 "java/lang/AbstractStringBuilder" "count" "I", Cond.methodLink RJ0 1047 ⟨"java/lang/AbstractStringBuilder", "isLatin1", "()Z"⟩, Cond.sameMethod "java/lang/AbstractStringBuilder" "java/lang/AbstractStringBuilder" "isLatin1" "()Z", Cond.selects RJ4 ⟨"java/lang/AbstractStringBuilder", "isLatin1", "()Z"⟩ yJ5_isLatin1_aae02, Cond.instanceMethod yJ5_isLatin1_aae02, Cond.code yJ5_isLatin1_aae02 cJ5_isLatin1_aae02 1 (some .boolean), Cond.fieldLink RJ5 18 "java/lang/String" "COMPACT_STRINGS" "Z", Cond.fieldLink RJ5 22 "java/lang/AbstractStringBuilder" "coder" "B", Cond.methodLink RJ0 54 yJ7_copyOfRange_39247, Cond.static yJ7_copyOfRange_39247, Cond.initialized RJ7, Cond.code yJ7_copyOfRange_39247 cJ7_copyOfRange_39247 3 (some (.array .byte)), Cond.methodLink RJ7 310 ⟨"[B", "clone", "()Ljava/lang/Object;"⟩, Cond.sameMethod "[B" "java/lang/Object" "clone" "()Ljava/lang/Object;", Cond.native ⟨"java/lang/Object", "clone", "()Ljava/lang/Object;"⟩, Cond.instanceMethod ⟨"java/lang/Object", "clone", "()Ljava/lang/Object;"⟩, Cond.selects "[B" ⟨"[B", "clone", "()Ljava/lang/Object;"⟩ ⟨"java/lang/Object", "clone", "()Ljava/lang/Object;"⟩, Cond.classLink RJ7 311 "[B", Cond.methodLink RJ7 339 yJ7_copyOfRangeByte_39247, Cond.static yJ7_copyOfRangeByte_39247, Cond.code yJ7_copyOfRangeByte_39247 cJ7_copyOfRangeByte_39247 5 (some (.array .byte)), Cond.arrayClass .byte, Cond.methodLink RJ7 304 Lib.Math.min.name]
def wsJ0_init_db425_r3 : List Cond := [Cond.static Lib.Math.min.name, Cond.initialized "java/lang/Math", Cond.code Lib.Math.min.name Lib.Math.min.code 2 (some .int), Cond.methodLink RJ7 150 arraycopyName, Cond.native arraycopyName, Cond.static arraycopyName, Cond.initialized "java/lang/System", Cond.methodLink RJ7 343 yJ7_checkLength_df160, Cond.static yJ7_checkLength_df160, Cond.code yJ7_checkLength_df160 cJ7_checkLength_df160 2 none, Cond.classLink RJ7 45 RJ4, Cond.instantiable RJ4 4, Cond.methodLink RJ0 1051 yJ2_compress_39247, Cond.static yJ2_compress_39247, Cond.initialized RJ2, Cond.code yJ2_compress_39247 cJ2_compress_39247 6 (some (.array .byte)), Cond.methodLink RJ2 123 yJ2_compress_5af95, Cond.static yJ2_compress_5af95, Cond.code yJ2_compress_5af95 cJ2_compress_5af95 7 (some .int), Cond.methodLink RJ2 173 yJ2_checkBoundsOffCount_d044e, Cond.static yJ2_checkBoundsOffCount_d044e, Cond.code yJ2_checkBoundsOffCount_d044e cJ2_checkBoundsOffCount_d044e 3 none, Cond.methodLink RJ2 48 yJ2_length_9d52b, Cond.static yJ2_length_9d52b]
def wsJ0_init_db425_r4 : List Cond := [Cond.code yJ2_length_9d52b cJ2_length_9d52b 1 (some .int), Cond.methodLink RJ2 419 yJ0_checkBoundsOffCount_cabcc, Cond.static yJ0_checkBoundsOffCount_cabcc, Cond.initialized RJ0, Cond.code yJ0_checkBoundsOffCount_cabcc cJ0_checkBoundsOffCount_cabcc 3 (some .int), Cond.fieldLink RJ0 1053 "jdk/internal/util/Preconditions" "SIOOBE_FORMATTER" "Ljava/util/function/BiFunction;", Cond.methodLink RJ0 1065 yJ3_checkFromIndexSize_8c36e, Cond.static yJ3_checkFromIndexSize_8c36e, Cond.initialized RJ3, Cond.code yJ3_checkFromIndexSize_8c36e cJ3_checkFromIndexSize_8c36e 4 (some .int), Cond.methodLink RJ2 71 yJ2_getChar_3b067, Cond.static yJ2_getChar_3b067, Cond.code yJ2_getChar_3b067 cJ2_getChar_3b067 2 (some .char), Cond.fieldLink RJ2 44 "java/lang/StringUTF16" "$assertionsDisabled" "Z", Cond.fieldLink RJ2 59 "java/lang/StringUTF16" "HI_BYTE_SHIFT" "I", Cond.fieldLink RJ2 63 "java/lang/StringUTF16" "LO_BYTE_SHIFT" "I", Cond.methodLink RJ2 11 yJ2_newBytesLength_0f7a4, Cond.static yJ2_newBytesLength_0f7a4, Cond.code yJ2_newBytesLength_0f7a4 cJ2_newBytesLength_0f7a4 1 (some .int), Cond.constant RJ2 20 (1073741823), Cond.methodLink RJ2 126 yJ7_copyOfRange_39247, Cond.methodLink RJ0 47 yJ2_coderFromArrayLen_85cad, Cond.static yJ2_coderFromArrayLen_85cad, Cond.code yJ2_coderFromArrayLen_85cad cJ2_coderFromArrayLen_85cad 2 (some .byte)]
def wsJ0_init_db425 : List Cond := .code yJ0_init_db425 cJ0_init_db425 5 none :: ((wsJ0_init_db425_r1 ++ (wsJ0_init_db425_r2 ++ (wsJ0_init_db425_r3 ++ wsJ0_init_db425_r4))) ++ wsJ00 ++ wsJ40)
def wsJ0_init_81219_r1 : List Cond := [Cond.methodLink RJ0 489 yJ0_init_db425, Cond.instanceMethod yJ0_init_db425, Cond.initialized RJ0, Cond.code yJ0_init_db425 cJ0_init_db425 5 none, Cond.methodLink RJ0 1 objectInit, Cond.instanceMethod objectInit, Cond.code objectInit ⟨#[0xb1]⟩ 1 none, Cond.fieldLink RJ0 15 "java/lang/String" "coder" "B", Cond.fieldLink RJ0 9 "java/lang/String" "value" "[B", Cond.fieldLink RJ0 38 "java/lang/String" "COMPACT_STRINGS" "Z", Cond.fieldLink RJ0 1048 "java/lang/AbstractStringBuilder" "maybeLatin1" "Z", Cond.methodLink RJ0 552 ⟨"java/lang/AbstractStringBuilder", "getValue", "()[B"⟩, Cond.sameMethod "java/lang/AbstractStringBuilder" "java/lang/AbstractStringBuilder" "getValue" "()[B", Cond.selects RJ4 ⟨"java/lang/AbstractStringBuilder", "getValue", "()[B"⟩ yJ5_getValue_6d5f1, Cond.instanceMethod yJ5_getValue_6d5f1, Cond.initialized RJ5, Cond.code yJ5_getValue_6d5f1 cJ5_getValue_6d5f1 1 (some (.array .byte)), Cond.fieldLink RJ5 15 "java/lang/AbstractStringBuilder" "value" "[B", Cond.methodLink RJ0 549 ⟨"java/lang/AbstractStringBuilder", "length", "()I"⟩, Cond.sameMethod "java/lang/AbstractStringBuilder" "java/lang/AbstractStringBuilder" "length" "()I", Cond.instanceMethod ⟨"java/lang/AbstractStringBuilder", "length", "()I"⟩, Cond.selects RJ4 ⟨"java/lang/AbstractStringBuilder", "length", "()I"⟩ yJ4_length_8abf5, Cond.instanceMethod yJ4_length_8abf5, Cond.initialized RJ4]
def wsJ0_init_81219_r2 : List Cond := [Cond.code yJ4_length_8abf5 cJ4_length_8abf5 1 (some .int), Cond.methodLink RJ4 343 yJ5_length_8abf5, Cond.superclass RJ4 RJ5, Cond.instanceMethod yJ5_length_8abf5, Cond.code yJ5_length_8abf5 cJ5_length_8abf5 1 (some .int), Cond.fieldLink RJ5 79 "java/lang/AbstractStringBuilder" "count" "I", Cond.methodLink RJ0 1047 ⟨"java/lang/AbstractStringBuilder", "isLatin1", "()Z"⟩, Cond.sameMethod "java/lang/AbstractStringBuilder" "java/lang/AbstractStringBuilder" "isLatin1" "()Z", Cond.selects RJ4 ⟨"java/lang/AbstractStringBuilder", "isLatin1", "()Z"⟩ yJ5_isLatin1_aae02, Cond.instanceMethod yJ5_isLatin1_aae02, Cond.code yJ5_isLatin1_aae02 cJ5_isLatin1_aae02 1 (some .boolean), Cond.fieldLink RJ5 18 "java/lang/String" "COMPACT_STRINGS" "Z", Cond.fieldLink RJ5 22 "java/lang/AbstractStringBuilder" "coder" "B", Cond.methodLink RJ0 54 yJ7_copyOfRange_39247, Cond.static yJ7_copyOfRange_39247, Cond.initialized RJ7, Cond.code yJ7_copyOfRange_39247 cJ7_copyOfRange_39247 3 (some (.array .byte)), Cond.methodLink RJ7 310 ⟨"[B", "clone", "()Ljava/lang/Object;"⟩, Cond.sameMethod "[B" "java/lang/Object" "clone" "()Ljava/lang/Object;", Cond.native ⟨"java/lang/Object", "clone", "()Ljava/lang/Object;"⟩, Cond.instanceMethod ⟨"java/lang/Object", "clone", "()Ljava/lang/Object;"⟩, Cond.selects "[B" ⟨"[B", "clone", "()Ljava/lang/Object;"⟩ ⟨"java/lang/Object", "clone", "()Ljava/lang/Object;"⟩, Cond.classLink RJ7 311 "[B", Cond.methodLink RJ7 339 yJ7_copyOfRangeByte_39247]
def wsJ0_init_81219_r3 : List Cond := [Cond.static yJ7_copyOfRangeByte_39247, Cond.code yJ7_copyOfRangeByte_39247 cJ7_copyOfRangeByte_39247 5 (some (.array .byte)), Cond.arrayClass .byte, Cond.methodLink RJ7 304 Lib.Math.min.name, Cond.static Lib.Math.min.name, Cond.initialized "java/lang/Math", Cond.code Lib.Math.min.name Lib.Math.min.code 2 (some .int), Cond.methodLink RJ7 150 arraycopyName, Cond.native arraycopyName, Cond.static arraycopyName, Cond.initialized "java/lang/System", Cond.methodLink RJ7 343 yJ7_checkLength_df160, Cond.static yJ7_checkLength_df160, Cond.code yJ7_checkLength_df160 cJ7_checkLength_df160 2 none, Cond.classLink RJ7 45 RJ4, Cond.instantiable RJ4 4, Cond.methodLink RJ0 1051 yJ2_compress_39247, Cond.static yJ2_compress_39247, Cond.initialized RJ2, Cond.code yJ2_compress_39247 cJ2_compress_39247 6 (some (.array .byte)), Cond.methodLink RJ2 123 yJ2_compress_5af95, Cond.static yJ2_compress_5af95, Cond.code yJ2_compress_5af95 cJ2_compress_5af95 7 (some .int), Cond.methodLink RJ2 173 yJ2_checkBoundsOffCount_d044e]
def wsJ0_init_81219_r4 : List Cond := [Cond.static yJ2_checkBoundsOffCount_d044e, Cond.code yJ2_checkBoundsOffCount_d044e cJ2_checkBoundsOffCount_d044e 3 none, Cond.methodLink RJ2 48 yJ2_length_9d52b, Cond.static yJ2_length_9d52b, Cond.code yJ2_length_9d52b cJ2_length_9d52b 1 (some .int), Cond.methodLink RJ2 419 yJ0_checkBoundsOffCount_cabcc, Cond.static yJ0_checkBoundsOffCount_cabcc, Cond.code yJ0_checkBoundsOffCount_cabcc cJ0_checkBoundsOffCount_cabcc 3 (some .int), Cond.fieldLink RJ0 1053 "jdk/internal/util/Preconditions" "SIOOBE_FORMATTER" "Ljava/util/function/BiFunction;", Cond.methodLink RJ0 1065 yJ3_checkFromIndexSize_8c36e, Cond.static yJ3_checkFromIndexSize_8c36e, Cond.initialized RJ3, Cond.code yJ3_checkFromIndexSize_8c36e cJ3_checkFromIndexSize_8c36e 4 (some .int), Cond.methodLink RJ2 71 yJ2_getChar_3b067, Cond.static yJ2_getChar_3b067, Cond.code yJ2_getChar_3b067 cJ2_getChar_3b067 2 (some .char), Cond.fieldLink RJ2 44 "java/lang/StringUTF16" "$assertionsDisabled" "Z", Cond.fieldLink RJ2 59 "java/lang/StringUTF16" "HI_BYTE_SHIFT" "I", Cond.fieldLink RJ2 63 "java/lang/StringUTF16" "LO_BYTE_SHIFT" "I", Cond.methodLink RJ2 11 yJ2_newBytesLength_0f7a4, Cond.static yJ2_newBytesLength_0f7a4, Cond.code yJ2_newBytesLength_0f7a4 cJ2_newBytesLength_0f7a4 1 (some .int), Cond.constant RJ2 20 (1073741823), Cond.methodLink RJ2 126 yJ7_copyOfRange_39247]
def wsJ0_init_81219_r5 : List Cond := [Cond.methodLink RJ0 47 yJ2_coderFromArrayLen_85cad, Cond.static yJ2_coderFromArrayLen_85cad, Cond.code yJ2_coderFromArrayLen_85cad cJ2_coderFromArrayLen_85cad 2 (some .byte)]
def wsJ0_init_81219 : List Cond := .code yJ0_init_81219 cJ0_init_81219 2 none :: ((wsJ0_init_81219_r1 ++ (wsJ0_init_81219_r2 ++ (wsJ0_init_81219_r3 ++ (wsJ0_init_81219_r4 ++ wsJ0_init_81219_r5)))) ++ wsJ00 ++ wsJ40)
def wsJ4_init_da8c8 : List Cond := .code yJ4_init_da8c8 cJ4_init_da8c8 1 none :: ([.methodLink RJ4 1 yJ5_init_d00df, .instanceMethod yJ5_init_d00df, .initialized RJ5, .code yJ5_init_d00df cJ5_init_d00df 2 none, .methodLink RJ5 3 objectInit, .instanceMethod objectInit, .code objectInit ⟨#[0xb1]⟩ 1 none, .fieldLink RJ5 18 "java/lang/String" "COMPACT_STRINGS" "Z", .arrayClass .byte, .fieldLink RJ5 15 "java/lang/AbstractStringBuilder" "value" "[B", .fieldLink RJ5 22 "java/lang/AbstractStringBuilder" "coder" "B", .methodLink RJ5 26 yJ2_newBytesFor_77867, .static yJ2_newBytesFor_77867, .initialized RJ2, .code yJ2_newBytesFor_77867 cJ2_newBytesFor_77867 1 (some (.array .byte)), .methodLink RJ2 11 yJ2_newBytesLength_0f7a4, .static yJ2_newBytesLength_0f7a4, .code yJ2_newBytesLength_0f7a4 cJ2_newBytesLength_0f7a4 1 (some .int), .constant RJ2 20 (1073741823)] ++ wsJ40)
def wsJ4_append_15ec4_r1 : List Cond := [Cond.methodLink RJ4 29 yJ5_append_cf1ce, Cond.sameMethod "java/lang/AbstractStringBuilder" "java/lang/AbstractStringBuilder" "append" "(Ljava/lang/String;)Ljava/lang/AbstractStringBuilder;", Cond.superclass RJ4 RJ5, Cond.instanceMethod yJ5_append_cf1ce, Cond.initialized RJ5, Cond.code yJ5_append_cf1ce cJ5_append_cf1ce 3 (some (.object "java/lang/AbstractStringBuilder")), Cond.fieldLink RJ5 79 "java/lang/AbstractStringBuilder" "count" "I", Cond.methodLink RJ5 204 ⟨"java/lang/AbstractStringBuilder", "appendNull", "()Ljava/lang/AbstractStringBuilder;"⟩, Cond.sameMethod "java/lang/AbstractStringBuilder" "java/lang/AbstractStringBuilder" "appendNull" "()Ljava/lang/AbstractStringBuilder;", Cond.selects RJ4 ⟨"java/lang/AbstractStringBuilder", "appendNull", "()Ljava/lang/AbstractStringBuilder;"⟩ yJ5_appendNull_278bc, Cond.instanceMethod yJ5_appendNull_278bc, Cond.code yJ5_appendNull_278bc cJ5_appendNull_278bc 3 (some (.object "java/lang/AbstractStringBuilder")), Cond.fieldLink RJ5 15 "java/lang/AbstractStringBuilder" "value" "[B", Cond.methodLink RJ5 100 ⟨"java/lang/AbstractStringBuilder", "ensureCapacityInternal", "(I)V"⟩, Cond.sameMethod "java/lang/AbstractStringBuilder" "java/lang/AbstractStringBuilder" "ensureCapacityInternal" "(I)V", Cond.selects RJ4 ⟨"java/lang/AbstractStringBuilder", "ensureCapacityInternal", "(I)V"⟩ yJ5_ensureCapacityInternal_d00df, Cond.instanceMethod yJ5_ensureCapacityInternal_d00df, Cond.code yJ5_ensureCapacityInternal_d00df cJ5_ensureCapacityInternal_d00df 3 none, Cond.fieldLink RJ5 22 "java/lang/AbstractStringBuilder" "coder" "B", Cond.methodLink RJ5 104 ⟨"java/lang/AbstractStringBuilder", "newCapacity", "(I)I"⟩, Cond.sameMethod "java/lang/AbstractStringBuilder" "java/lang/AbstractStringBuilder" "newCapacity" "(I)I", Cond.selects RJ4 ⟨"java/lang/AbstractStringBuilder", "newCapacity", "(I)I"⟩ yJ5_newCapacity_0f7a4, Cond.instanceMethod yJ5_newCapacity_0f7a4, Cond.code yJ5_newCapacity_0f7a4 cJ5_newCapacity_0f7a4 6 (some .int)]
def wsJ4_append_15ec4_r2 : List Cond := [Cond.constant RJ5 39 (2147483647), Cond.methodLink RJ5 114 yJ8_newLength_cabcc, Cond.static yJ8_newLength_cabcc, Cond.initialized RJ8, Cond.code yJ8_newLength_cabcc cJ8_newLength_cabcc 4 (some .int), Cond.methodLink RJ8 194 Lib.Math.max.name, Cond.static Lib.Math.max.name, Cond.initialized "java/lang/Math", Cond.code Lib.Math.max.name Lib.Math.max.code 2 (some .int), Cond.constant RJ8 200 (2147483639), Cond.methodLink RJ8 201 yJ8_hugeLength_7cf53, Cond.static yJ8_hugeLength_7cf53, Cond.code yJ8_hugeLength_7cf53 cJ8_hugeLength_7cf53 3 (some .int), Cond.methodLink RJ5 108 yJ7_copyOf_9075b, Cond.static yJ7_copyOf_9075b, Cond.initialized RJ7, Cond.code yJ7_copyOf_9075b cJ7_copyOf_9075b 3 (some (.array .byte)), Cond.methodLink RJ7 310 ⟨"[B", "clone", "()Ljava/lang/Object;"⟩, Cond.sameMethod "[B" "java/lang/Object" "clone" "()Ljava/lang/Object;", Cond.native ⟨"java/lang/Object", "clone", "()Ljava/lang/Object;"⟩, Cond.instanceMethod ⟨"java/lang/Object", "clone", "()Ljava/lang/Object;"⟩, Cond.selects "[B" ⟨"[B", "clone", "()Ljava/lang/Object;"⟩ ⟨"java/lang/Object", "clone", "()Ljava/lang/Object;"⟩, Cond.classLink RJ7 311 "[B", Cond.arrayClass .byte]
def wsJ4_append_15ec4_r3 : List Cond := [Cond.methodLink RJ7 304 Lib.Math.min.name, Cond.static Lib.Math.min.name, Cond.code Lib.Math.min.name Lib.Math.min.code 2 (some .int), Cond.methodLink RJ7 150 arraycopyName, Cond.native arraycopyName, Cond.static arraycopyName, Cond.initialized "java/lang/System", Cond.methodLink RJ5 83 ⟨"java/lang/AbstractStringBuilder", "isLatin1", "()Z"⟩, Cond.sameMethod "java/lang/AbstractStringBuilder" "java/lang/AbstractStringBuilder" "isLatin1" "()Z", Cond.selects RJ4 ⟨"java/lang/AbstractStringBuilder", "isLatin1", "()Z"⟩ yJ5_isLatin1_aae02, Cond.instanceMethod yJ5_isLatin1_aae02, Cond.code yJ5_isLatin1_aae02 cJ5_isLatin1_aae02 1 (some .boolean), Cond.fieldLink RJ5 18 "java/lang/String" "COMPACT_STRINGS" "Z", Cond.methodLink RJ5 226 yJ2_putCharsAt_cd4e5, Cond.static yJ2_putCharsAt_cd4e5, Cond.initialized RJ2, Cond.code yJ2_putCharsAt_cd4e5 cJ2_putCharsAt_cd4e5 7 (some .int), Cond.fieldLink RJ2 44 "java/lang/StringUTF16" "$assertionsDisabled" "Z", Cond.methodLink RJ2 96 yJ2_checkBoundsBeginEnd_d044e, Cond.static yJ2_checkBoundsBeginEnd_d044e, Cond.code yJ2_checkBoundsBeginEnd_d044e cJ2_checkBoundsBeginEnd_d044e 3 none, Cond.methodLink RJ2 48 yJ2_length_9d52b, Cond.static yJ2_length_9d52b, Cond.code yJ2_length_9d52b cJ2_length_9d52b 1 (some .int)]
def wsJ4_append_15ec4_r4 : List Cond := [Cond.methodLink RJ2 241 yJ0_checkBoundsBeginEnd_23922, Cond.static yJ0_checkBoundsBeginEnd_23922, Cond.initialized RJ0, Cond.code yJ0_checkBoundsBeginEnd_23922 cJ0_checkBoundsBeginEnd_23922 3 none, Cond.fieldLink RJ0 1053 "jdk/internal/util/Preconditions" "SIOOBE_FORMATTER" "Ljava/util/function/BiFunction;", Cond.methodLink RJ0 1062 yJ3_checkFromToIndex_8c36e, Cond.static yJ3_checkFromToIndex_8c36e, Cond.initialized RJ3, Cond.code yJ3_checkFromToIndex_8c36e cJ3_checkFromToIndex_8c36e 4 (some .int), Cond.methodLink RJ2 111 yJ2_putChar_b72d1, Cond.static yJ2_putChar_b72d1, Cond.code yJ2_putChar_b72d1 cJ2_putChar_b72d1 3 none, Cond.fieldLink RJ2 59 "java/lang/StringUTF16" "HI_BYTE_SHIFT" "I", Cond.fieldLink RJ2 63 "java/lang/StringUTF16" "LO_BYTE_SHIFT" "I", Cond.methodLink RJ5 32 yJ0_length_8abf5, Cond.instanceMethod yJ0_length_8abf5, Cond.selects RJ0 yJ0_length_8abf5 yJ0_length_8abf5, Cond.code yJ0_length_8abf5 cJ0_length_8abf5 1 (some .int), Cond.fieldLink RJ0 9 "java/lang/String" "value" "[B", Cond.methodLink RJ0 335 yJ0_coder_7d493, Cond.instanceMethod yJ0_coder_7d493, Cond.selects RJ0 yJ0_coder_7d493 yJ0_coder_7d493, Cond.code yJ0_coder_7d493 cJ0_coder_7d493 1 (some .byte), Cond.fieldLink RJ0 38 "java/lang/String" "COMPACT_STRINGS" "Z"]
def wsJ4_append_15ec4_r5 : List Cond := [Cond.fieldLink RJ0 15 "java/lang/String" "coder" "B", Cond.methodLink RJ5 208 ⟨"java/lang/AbstractStringBuilder", "putStringAt", "(ILjava/lang/String;)V"⟩, Cond.sameMethod "java/lang/AbstractStringBuilder" "java/lang/AbstractStringBuilder" "putStringAt" "(ILjava/lang/String;)V", Cond.selects RJ4 ⟨"java/lang/AbstractStringBuilder", "putStringAt", "(ILjava/lang/String;)V"⟩ yJ5_putStringAt_47b60, Cond.instanceMethod yJ5_putStringAt_47b60, Cond.code yJ5_putStringAt_47b60 cJ5_putStringAt_47b60 3 none, Cond.methodLink RJ5 397 ⟨"java/lang/AbstractStringBuilder", "inflateIfNeededFor", "(Ljava/lang/String;)V"⟩, Cond.sameMethod "java/lang/AbstractStringBuilder" "java/lang/AbstractStringBuilder" "inflateIfNeededFor" "(Ljava/lang/String;)V", Cond.selects RJ4 ⟨"java/lang/AbstractStringBuilder", "inflateIfNeededFor", "(Ljava/lang/String;)V"⟩ yJ5_inflateIfNeededFor_a7421, Cond.instanceMethod yJ5_inflateIfNeededFor_a7421, Cond.code yJ5_inflateIfNeededFor_a7421 cJ5_inflateIfNeededFor_a7421 2 none, Cond.methodLink RJ5 40 yJ0_coder_7d493, Cond.methodLink RJ5 195 ⟨"java/lang/AbstractStringBuilder", "inflate", "()V"⟩, Cond.sameMethod "java/lang/AbstractStringBuilder" "java/lang/AbstractStringBuilder" "inflate" "()V", Cond.selects RJ4 ⟨"java/lang/AbstractStringBuilder", "inflate", "()V"⟩ yJ5_inflate_da8c8, Cond.instanceMethod yJ5_inflate_da8c8, Cond.code yJ5_inflate_da8c8 cJ5_inflate_da8c8 2 none, Cond.methodLink RJ5 26 yJ2_newBytesFor_77867, Cond.static yJ2_newBytesFor_77867, Cond.code yJ2_newBytesFor_77867 cJ2_newBytesFor_77867 1 (some (.array .byte)), Cond.methodLink RJ2 11 yJ2_newBytesLength_0f7a4, Cond.static yJ2_newBytesLength_0f7a4, Cond.code yJ2_newBytesLength_0f7a4 cJ2_newBytesLength_0f7a4 1 (some .int), Cond.constant RJ2 20 (1073741823)]
def wsJ4_append_15ec4_r6 : List Cond := [Cond.methodLink RJ5 125 yJ1_inflate_0e8fd, Cond.static yJ1_inflate_0e8fd, Cond.initialized RJ1, Cond.code yJ1_inflate_0e8fd cJ1_inflate_0e8fd 5 none, Cond.methodLink RJ1 240 yJ2_inflate_0e8fd, Cond.static yJ2_inflate_0e8fd, Cond.code yJ2_inflate_0e8fd cJ2_inflate_0e8fd 6 none, Cond.methodLink RJ2 173 yJ2_checkBoundsOffCount_d044e, Cond.static yJ2_checkBoundsOffCount_d044e, Cond.code yJ2_checkBoundsOffCount_d044e cJ2_checkBoundsOffCount_d044e 3 none, Cond.methodLink RJ2 419 yJ0_checkBoundsOffCount_cabcc, Cond.static yJ0_checkBoundsOffCount_cabcc, Cond.code yJ0_checkBoundsOffCount_cabcc cJ0_checkBoundsOffCount_cabcc 3 (some .int), Cond.methodLink RJ0 1065 yJ3_checkFromIndexSize_8c36e, Cond.static yJ3_checkFromIndexSize_8c36e, Cond.code yJ3_checkFromIndexSize_8c36e cJ3_checkFromIndexSize_8c36e 4 (some .int), Cond.methodLink RJ5 399 yJ0_getBytes_840e7, Cond.instanceMethod yJ0_getBytes_840e7, Cond.selects RJ0 yJ0_getBytes_840e7 yJ0_getBytes_840e7, Cond.code yJ0_getBytes_840e7 cJ0_getBytes_840e7 4 none, Cond.methodLink RJ0 212 arraycopyName, Cond.methodLink RJ0 106 yJ1_inflate_0e8fd]
def wsJ4_append_15ec4 : List Cond := .code yJ4_append_15ec4 cJ4_append_15ec4 2 (some (.object "java/lang/StringBuilder")) :: ((wsJ4_append_15ec4_r1 ++ (wsJ4_append_15ec4_r2 ++ (wsJ4_append_15ec4_r3 ++ (wsJ4_append_15ec4_r4 ++ (wsJ4_append_15ec4_r5 ++ wsJ4_append_15ec4_r6))))) ++ wsJ40 ++ wsJ00)
def wsJ4_append_bf812_r1 : List Cond := [Cond.methodLink RJ4 53 yJ5_append_c97b9, Cond.sameMethod "java/lang/AbstractStringBuilder" "java/lang/AbstractStringBuilder" "append" "(I)Ljava/lang/AbstractStringBuilder;", Cond.superclass RJ4 RJ5, Cond.instanceMethod yJ5_append_c97b9, Cond.initialized RJ5, Cond.code yJ5_append_c97b9 cJ5_append_c97b9 4 (some (.object "java/lang/AbstractStringBuilder")), Cond.fieldLink RJ5 79 "java/lang/AbstractStringBuilder" "count" "I", Cond.fieldLink RJ5 15 "java/lang/AbstractStringBuilder" "value" "[B", Cond.methodLink RJ5 245 yJ6_stringSize_0f7a4, Cond.static yJ6_stringSize_0f7a4, Cond.initialized RJ6, Cond.code yJ6_stringSize_0f7a4 cJ6_stringSize_0f7a4 4 (some .int), Cond.methodLink RJ5 100 ⟨"java/lang/AbstractStringBuilder", "ensureCapacityInternal", "(I)V"⟩, Cond.sameMethod "java/lang/AbstractStringBuilder" "java/lang/AbstractStringBuilder" "ensureCapacityInternal" "(I)V", Cond.selects RJ4 ⟨"java/lang/AbstractStringBuilder", "ensureCapacityInternal", "(I)V"⟩ yJ5_ensureCapacityInternal_d00df, Cond.instanceMethod yJ5_ensureCapacityInternal_d00df, Cond.code yJ5_ensureCapacityInternal_d00df cJ5_ensureCapacityInternal_d00df 3 none, Cond.fieldLink RJ5 22 "java/lang/AbstractStringBuilder" "coder" "B", Cond.methodLink RJ5 104 ⟨"java/lang/AbstractStringBuilder", "newCapacity", "(I)I"⟩, Cond.sameMethod "java/lang/AbstractStringBuilder" "java/lang/AbstractStringBuilder" "newCapacity" "(I)I", Cond.selects RJ4 ⟨"java/lang/AbstractStringBuilder", "newCapacity", "(I)I"⟩ yJ5_newCapacity_0f7a4, Cond.instanceMethod yJ5_newCapacity_0f7a4, Cond.code yJ5_newCapacity_0f7a4 cJ5_newCapacity_0f7a4 6 (some .int), Cond.constant RJ5 39 (2147483647)]
def wsJ4_append_bf812_r2 : List Cond := [Cond.methodLink RJ5 114 yJ8_newLength_cabcc, Cond.static yJ8_newLength_cabcc, Cond.initialized RJ8, Cond.code yJ8_newLength_cabcc cJ8_newLength_cabcc 4 (some .int), Cond.methodLink RJ8 194 Lib.Math.max.name, Cond.static Lib.Math.max.name, Cond.initialized "java/lang/Math", Cond.code Lib.Math.max.name Lib.Math.max.code 2 (some .int), Cond.constant RJ8 200 (2147483639), Cond.methodLink RJ8 201 yJ8_hugeLength_7cf53, Cond.static yJ8_hugeLength_7cf53, Cond.code yJ8_hugeLength_7cf53 cJ8_hugeLength_7cf53 3 (some .int), Cond.methodLink RJ5 108 yJ7_copyOf_9075b, Cond.static yJ7_copyOf_9075b, Cond.initialized RJ7, Cond.code yJ7_copyOf_9075b cJ7_copyOf_9075b 3 (some (.array .byte)), Cond.methodLink RJ7 310 ⟨"[B", "clone", "()Ljava/lang/Object;"⟩, Cond.sameMethod "[B" "java/lang/Object" "clone" "()Ljava/lang/Object;", Cond.native ⟨"java/lang/Object", "clone", "()Ljava/lang/Object;"⟩, Cond.instanceMethod ⟨"java/lang/Object", "clone", "()Ljava/lang/Object;"⟩, Cond.selects "[B" ⟨"[B", "clone", "()Ljava/lang/Object;"⟩ ⟨"java/lang/Object", "clone", "()Ljava/lang/Object;"⟩, Cond.classLink RJ7 311 "[B", Cond.arrayClass .byte, Cond.methodLink RJ7 304 Lib.Math.min.name]
def wsJ4_append_bf812_r3 : List Cond := [Cond.static Lib.Math.min.name, Cond.code Lib.Math.min.name Lib.Math.min.code 2 (some .int), Cond.methodLink RJ7 150 arraycopyName, Cond.native arraycopyName, Cond.static arraycopyName, Cond.initialized "java/lang/System", Cond.methodLink RJ5 83 ⟨"java/lang/AbstractStringBuilder", "isLatin1", "()Z"⟩, Cond.sameMethod "java/lang/AbstractStringBuilder" "java/lang/AbstractStringBuilder" "isLatin1" "()Z", Cond.selects RJ4 ⟨"java/lang/AbstractStringBuilder", "isLatin1", "()Z"⟩ yJ5_isLatin1_aae02, Cond.instanceMethod yJ5_isLatin1_aae02, Cond.code yJ5_isLatin1_aae02 cJ5_isLatin1_aae02 1 (some .boolean), Cond.fieldLink RJ5 18 "java/lang/String" "COMPACT_STRINGS" "Z", Cond.methodLink RJ5 248 yJ6_getChars_ba4f3, Cond.static yJ6_getChars_ba4f3, Cond.code yJ6_getChars_ba4f3 cJ6_getChars_ba4f3 7 (some .int), Cond.fieldLink RJ6 83 "java/lang/Integer" "DigitOnes" "[B", Cond.fieldLink RJ6 87 "java/lang/Integer" "DigitTens" "[B", Cond.methodLink RJ5 251 yJ2_getChars_46870, Cond.static yJ2_getChars_46870, Cond.initialized RJ2, Cond.code yJ2_getChars_46870 cJ2_getChars_46870 5 (some .int), Cond.fieldLink RJ2 44 "java/lang/StringUTF16" "$assertionsDisabled" "Z", Cond.methodLink RJ2 96 yJ2_checkBoundsBeginEnd_d044e, Cond.static yJ2_checkBoundsBeginEnd_d044e]
def wsJ4_append_bf812_r4 : List Cond := [Cond.code yJ2_checkBoundsBeginEnd_d044e cJ2_checkBoundsBeginEnd_d044e 3 none, Cond.methodLink RJ2 48 yJ2_length_9d52b, Cond.static yJ2_length_9d52b, Cond.code yJ2_length_9d52b cJ2_length_9d52b 1 (some .int), Cond.methodLink RJ2 241 yJ0_checkBoundsBeginEnd_23922, Cond.static yJ0_checkBoundsBeginEnd_23922, Cond.initialized RJ0, Cond.code yJ0_checkBoundsBeginEnd_23922 cJ0_checkBoundsBeginEnd_23922 3 none, Cond.fieldLink RJ0 1053 "jdk/internal/util/Preconditions" "SIOOBE_FORMATTER" "Ljava/util/function/BiFunction;", Cond.methodLink RJ0 1062 yJ3_checkFromToIndex_8c36e, Cond.static yJ3_checkFromToIndex_8c36e, Cond.initialized RJ3, Cond.code yJ3_checkFromToIndex_8c36e cJ3_checkFromToIndex_8c36e 4 (some .int), Cond.methodLink RJ2 393 yJ2_getChars_ba4f3, Cond.static yJ2_getChars_ba4f3, Cond.code yJ2_getChars_ba4f3 cJ2_getChars_ba4f3 7 (some .int), Cond.fieldLink RJ2 403 "java/lang/Integer" "DigitOnes" "[B", Cond.fieldLink RJ2 407 "java/lang/Integer" "DigitTens" "[B", Cond.methodLink RJ2 111 yJ2_putChar_b72d1, Cond.static yJ2_putChar_b72d1, Cond.code yJ2_putChar_b72d1 cJ2_putChar_b72d1 3 none, Cond.fieldLink RJ2 59 "java/lang/StringUTF16" "HI_BYTE_SHIFT" "I", Cond.fieldLink RJ2 63 "java/lang/StringUTF16" "LO_BYTE_SHIFT" "I"]
def wsJ4_append_bf812 : List Cond := .code yJ4_append_bf812 cJ4_append_bf812 2 (some (.object "java/lang/StringBuilder")) :: ((wsJ4_append_bf812_r1 ++ (wsJ4_append_bf812_r2 ++ (wsJ4_append_bf812_r3 ++ wsJ4_append_bf812_r4))) ++ wsJ40)
def wsJ4_toString_0e30d_r1 : List Cond := [Cond.classLink RJ4 18 RJ0, Cond.instantiable RJ0 4, Cond.initialized RJ0, Cond.methodLink RJ4 137 yJ0_init_81219, Cond.instanceMethod yJ0_init_81219, Cond.code yJ0_init_81219 cJ0_init_81219 2 none, Cond.methodLink RJ0 489 yJ0_init_db425, Cond.instanceMethod yJ0_init_db425, Cond.code yJ0_init_db425 cJ0_init_db425 5 none, Cond.methodLink RJ0 1 objectInit, Cond.instanceMethod objectInit, Cond.code objectInit ⟨#[0xb1]⟩ 1 none, Cond.fieldLink RJ0 15 "java/lang/String" "coder" "B", Cond.fieldLink RJ0 9 "java/lang/String" "value" "[B", Cond.fieldLink RJ0 38 "java/lang/String" "COMPACT_STRINGS" "Z", Cond.fieldLink RJ0 1048 "java/lang/AbstractStringBuilder" "maybeLatin1" "Z", Cond.methodLink RJ0 552 ⟨"java/lang/AbstractStringBuilder", "getValue", "()[B"⟩, Cond.sameMethod "java/lang/AbstractStringBuilder" "java/lang/AbstractStringBuilder" "getValue" "()[B", Cond.selects RJ4 ⟨"java/lang/AbstractStringBuilder", "getValue", "()[B"⟩ yJ5_getValue_6d5f1, Cond.instanceMethod yJ5_getValue_6d5f1, Cond.initialized RJ5, Cond.code yJ5_getValue_6d5f1 cJ5_getValue_6d5f1 1 (some (.array .byte)), Cond.fieldLink RJ5 15 "java/lang/AbstractStringBuilder" "value" "[B", Cond.methodLink RJ0 549 ⟨"java/lang/AbstractStringBuilder", "length", "()I"⟩]
def wsJ4_toString_0e30d_r2 : List Cond := [Cond.sameMethod "java/lang/AbstractStringBuilder" "java/lang/AbstractStringBuilder" "length" "()I", Cond.instanceMethod ⟨"java/lang/AbstractStringBuilder", "length", "()I"⟩, Cond.selects RJ4 ⟨"java/lang/AbstractStringBuilder", "length", "()I"⟩ yJ4_length_8abf5, Cond.instanceMethod yJ4_length_8abf5, Cond.initialized RJ4, Cond.code yJ4_length_8abf5 cJ4_length_8abf5 1 (some .int), Cond.methodLink RJ4 343 yJ5_length_8abf5, Cond.superclass RJ4 RJ5, Cond.instanceMethod yJ5_length_8abf5, Cond.code yJ5_length_8abf5 cJ5_length_8abf5 1 (some .int), Cond.fieldLink RJ5 79 "java/lang/AbstractStringBuilder" "count" "I", Cond.methodLink RJ0 1047 ⟨"java/lang/AbstractStringBuilder", "isLatin1", "()Z"⟩, Cond.sameMethod "java/lang/AbstractStringBuilder" "java/lang/AbstractStringBuilder" "isLatin1" "()Z", Cond.selects RJ4 ⟨"java/lang/AbstractStringBuilder", "isLatin1", "()Z"⟩ yJ5_isLatin1_aae02, Cond.instanceMethod yJ5_isLatin1_aae02, Cond.code yJ5_isLatin1_aae02 cJ5_isLatin1_aae02 1 (some .boolean), Cond.fieldLink RJ5 18 "java/lang/String" "COMPACT_STRINGS" "Z", Cond.fieldLink RJ5 22 "java/lang/AbstractStringBuilder" "coder" "B", Cond.methodLink RJ0 54 yJ7_copyOfRange_39247, Cond.static yJ7_copyOfRange_39247, Cond.initialized RJ7, Cond.code yJ7_copyOfRange_39247 cJ7_copyOfRange_39247 3 (some (.array .byte)), Cond.methodLink RJ7 310 ⟨"[B", "clone", "()Ljava/lang/Object;"⟩, Cond.sameMethod "[B" "java/lang/Object" "clone" "()Ljava/lang/Object;"]
def wsJ4_toString_0e30d_r3 : List Cond := [Cond.native ⟨"java/lang/Object", "clone", "()Ljava/lang/Object;"⟩, Cond.instanceMethod ⟨"java/lang/Object", "clone", "()Ljava/lang/Object;"⟩, Cond.selects "[B" ⟨"[B", "clone", "()Ljava/lang/Object;"⟩ ⟨"java/lang/Object", "clone", "()Ljava/lang/Object;"⟩, Cond.classLink RJ7 311 "[B", Cond.methodLink RJ7 339 yJ7_copyOfRangeByte_39247, Cond.static yJ7_copyOfRangeByte_39247, Cond.code yJ7_copyOfRangeByte_39247 cJ7_copyOfRangeByte_39247 5 (some (.array .byte)), Cond.arrayClass .byte, Cond.methodLink RJ7 304 Lib.Math.min.name, Cond.static Lib.Math.min.name, Cond.initialized "java/lang/Math", Cond.code Lib.Math.min.name Lib.Math.min.code 2 (some .int), Cond.methodLink RJ7 150 arraycopyName, Cond.native arraycopyName, Cond.static arraycopyName, Cond.initialized "java/lang/System", Cond.methodLink RJ7 343 yJ7_checkLength_df160, Cond.static yJ7_checkLength_df160, Cond.code yJ7_checkLength_df160 cJ7_checkLength_df160 2 none, Cond.classLink RJ7 45 RJ4, Cond.instantiable RJ4 4, Cond.methodLink RJ0 1051 yJ2_compress_39247, Cond.static yJ2_compress_39247, Cond.initialized RJ2]
def wsJ4_toString_0e30d_r4 : List Cond := [Cond.code yJ2_compress_39247 cJ2_compress_39247 6 (some (.array .byte)), Cond.methodLink RJ2 123 yJ2_compress_5af95, Cond.static yJ2_compress_5af95, Cond.code yJ2_compress_5af95 cJ2_compress_5af95 7 (some .int), Cond.methodLink RJ2 173 yJ2_checkBoundsOffCount_d044e, Cond.static yJ2_checkBoundsOffCount_d044e, Cond.code yJ2_checkBoundsOffCount_d044e cJ2_checkBoundsOffCount_d044e 3 none, Cond.methodLink RJ2 48 yJ2_length_9d52b, Cond.static yJ2_length_9d52b, Cond.code yJ2_length_9d52b cJ2_length_9d52b 1 (some .int), Cond.methodLink RJ2 419 yJ0_checkBoundsOffCount_cabcc, Cond.static yJ0_checkBoundsOffCount_cabcc, Cond.code yJ0_checkBoundsOffCount_cabcc cJ0_checkBoundsOffCount_cabcc 3 (some .int), Cond.fieldLink RJ0 1053 "jdk/internal/util/Preconditions" "SIOOBE_FORMATTER" "Ljava/util/function/BiFunction;", Cond.methodLink RJ0 1065 yJ3_checkFromIndexSize_8c36e, Cond.static yJ3_checkFromIndexSize_8c36e, Cond.initialized RJ3, Cond.code yJ3_checkFromIndexSize_8c36e cJ3_checkFromIndexSize_8c36e 4 (some .int), Cond.methodLink RJ2 71 yJ2_getChar_3b067, Cond.static yJ2_getChar_3b067, Cond.code yJ2_getChar_3b067 cJ2_getChar_3b067 2 (some .char), Cond.fieldLink RJ2 44 "java/lang/StringUTF16" "$assertionsDisabled" "Z", Cond.fieldLink RJ2 59 "java/lang/StringUTF16" "HI_BYTE_SHIFT" "I", Cond.fieldLink RJ2 63 "java/lang/StringUTF16" "LO_BYTE_SHIFT" "I"]
def wsJ4_toString_0e30d_r5 : List Cond := [Cond.methodLink RJ2 11 yJ2_newBytesLength_0f7a4, Cond.static yJ2_newBytesLength_0f7a4, Cond.code yJ2_newBytesLength_0f7a4 cJ2_newBytesLength_0f7a4 1 (some .int), Cond.constant RJ2 20 (1073741823), Cond.methodLink RJ2 126 yJ7_copyOfRange_39247, Cond.methodLink RJ0 47 yJ2_coderFromArrayLen_85cad, Cond.static yJ2_coderFromArrayLen_85cad, Cond.code yJ2_coderFromArrayLen_85cad cJ2_coderFromArrayLen_85cad 2 (some .byte)]
def wsJ4_toString_0e30d : List Cond := .code yJ4_toString_0e30d cJ4_toString_0e30d 1 (some (.object "java/lang/String")) :: ((wsJ4_toString_0e30d_r1 ++ (wsJ4_toString_0e30d_r2 ++ (wsJ4_toString_0e30d_r3 ++ (wsJ4_toString_0e30d_r4 ++ wsJ4_toString_0e30d_r5)))) ++ wsJ00 ++ wsJ40)
def wsJx4a65c_outOfBoundsMsg_b52d3_r1 : List Cond := [Cond.classLink RJx4a65c 20 RJ4, Cond.instantiable RJ4 4, Cond.initialized RJ4, Cond.fieldLink RJx4a65c 48 "java/util/ArrayList" "size" "I", Cond.methodLink RJx4a65c 22 yJ4_init_da8c8, Cond.instanceMethod yJ4_init_da8c8, Cond.code yJ4_init_da8c8 cJ4_init_da8c8 1 none, Cond.methodLink RJ4 1 yJ5_init_d00df, Cond.instanceMethod yJ5_init_d00df, Cond.initialized RJ5, Cond.code yJ5_init_d00df cJ5_init_d00df 2 none, Cond.methodLink RJ5 3 objectInit, Cond.instanceMethod objectInit, Cond.code objectInit ⟨#[0xb1]⟩ 1 none, Cond.fieldLink RJ5 18 "java/lang/String" "COMPACT_STRINGS" "Z", Cond.arrayClass .byte, Cond.fieldLink RJ5 15 "java/lang/AbstractStringBuilder" "value" "[B", Cond.fieldLink RJ5 22 "java/lang/AbstractStringBuilder" "coder" "B", Cond.methodLink RJ5 26 yJ2_newBytesFor_77867, Cond.static yJ2_newBytesFor_77867, Cond.initialized RJ2, Cond.code yJ2_newBytesFor_77867 cJ2_newBytesFor_77867 1 (some (.array .byte)), Cond.methodLink RJ2 11 yJ2_newBytesLength_0f7a4, Cond.static yJ2_newBytesLength_0f7a4]
def wsJx4a65c_outOfBoundsMsg_b52d3_r2 : List Cond := [Cond.code yJ2_newBytesLength_0f7a4 cJ2_newBytesLength_0f7a4 1 (some .int), Cond.constant RJ2 20 (1073741823), Cond.methodLink RJx4a65c 25 yJ4_append_15ec4, Cond.instanceMethod yJ4_append_15ec4, Cond.selects RJ4 yJ4_append_15ec4 yJ4_append_15ec4, Cond.code yJ4_append_15ec4 cJ4_append_15ec4 2 (some (.object "java/lang/StringBuilder")), Cond.methodLink RJ4 29 yJ5_append_cf1ce, Cond.sameMethod "java/lang/AbstractStringBuilder" "java/lang/AbstractStringBuilder" "append" "(Ljava/lang/String;)Ljava/lang/AbstractStringBuilder;", Cond.superclass RJ4 RJ5, Cond.instanceMethod yJ5_append_cf1ce, Cond.code yJ5_append_cf1ce cJ5_append_cf1ce 3 (some (.object "java/lang/AbstractStringBuilder")), Cond.fieldLink RJ5 79 "java/lang/AbstractStringBuilder" "count" "I", Cond.methodLink RJ5 204 ⟨"java/lang/AbstractStringBuilder", "appendNull", "()Ljava/lang/AbstractStringBuilder;"⟩, Cond.sameMethod "java/lang/AbstractStringBuilder" "java/lang/AbstractStringBuilder" "appendNull" "()Ljava/lang/AbstractStringBuilder;", Cond.selects RJ4 ⟨"java/lang/AbstractStringBuilder", "appendNull", "()Ljava/lang/AbstractStringBuilder;"⟩ yJ5_appendNull_278bc, Cond.instanceMethod yJ5_appendNull_278bc, Cond.code yJ5_appendNull_278bc cJ5_appendNull_278bc 3 (some (.object "java/lang/AbstractStringBuilder")), Cond.methodLink RJ5 100 ⟨"java/lang/AbstractStringBuilder", "ensureCapacityInternal", "(I)V"⟩, Cond.sameMethod "java/lang/AbstractStringBuilder" "java/lang/AbstractStringBuilder" "ensureCapacityInternal" "(I)V", Cond.selects RJ4 ⟨"java/lang/AbstractStringBuilder", "ensureCapacityInternal", "(I)V"⟩ yJ5_ensureCapacityInternal_d00df, Cond.instanceMethod yJ5_ensureCapacityInternal_d00df, Cond.code yJ5_ensureCapacityInternal_d00df cJ5_ensureCapacityInternal_d00df 3 none, Cond.methodLink RJ5 104 ⟨"java/lang/AbstractStringBuilder", "newCapacity", "(I)I"⟩, Cond.sameMethod "java/lang/AbstractStringBuilder" "java/lang/AbstractStringBuilder" "newCapacity" "(I)I"]
def wsJx4a65c_outOfBoundsMsg_b52d3_r3 : List Cond := [Cond.selects RJ4 ⟨"java/lang/AbstractStringBuilder", "newCapacity", "(I)I"⟩ yJ5_newCapacity_0f7a4, Cond.instanceMethod yJ5_newCapacity_0f7a4, Cond.code yJ5_newCapacity_0f7a4 cJ5_newCapacity_0f7a4 6 (some .int), Cond.constant RJ5 39 (2147483647), Cond.methodLink RJ5 114 yJ8_newLength_cabcc, Cond.static yJ8_newLength_cabcc, Cond.initialized RJ8, Cond.code yJ8_newLength_cabcc cJ8_newLength_cabcc 4 (some .int), Cond.methodLink RJ8 194 Lib.Math.max.name, Cond.static Lib.Math.max.name, Cond.initialized "java/lang/Math", Cond.code Lib.Math.max.name Lib.Math.max.code 2 (some .int), Cond.constant RJ8 200 (2147483639), Cond.methodLink RJ8 201 yJ8_hugeLength_7cf53, Cond.static yJ8_hugeLength_7cf53, Cond.code yJ8_hugeLength_7cf53 cJ8_hugeLength_7cf53 3 (some .int), Cond.methodLink RJ5 108 yJ7_copyOf_9075b, Cond.static yJ7_copyOf_9075b, Cond.initialized RJ7, Cond.code yJ7_copyOf_9075b cJ7_copyOf_9075b 3 (some (.array .byte)), Cond.methodLink RJ7 310 ⟨"[B", "clone", "()Ljava/lang/Object;"⟩, Cond.sameMethod "[B" "java/lang/Object" "clone" "()Ljava/lang/Object;", Cond.native ⟨"java/lang/Object", "clone", "()Ljava/lang/Object;"⟩, Cond.instanceMethod ⟨"java/lang/Object", "clone", "()Ljava/lang/Object;"⟩]
def wsJx4a65c_outOfBoundsMsg_b52d3_r4 : List Cond := [Cond.selects "[B" ⟨"[B", "clone", "()Ljava/lang/Object;"⟩ ⟨"java/lang/Object", "clone", "()Ljava/lang/Object;"⟩, Cond.classLink RJ7 311 "[B", Cond.methodLink RJ7 304 Lib.Math.min.name, Cond.static Lib.Math.min.name, Cond.code Lib.Math.min.name Lib.Math.min.code 2 (some .int), Cond.methodLink RJ7 150 arraycopyName, Cond.native arraycopyName, Cond.static arraycopyName, Cond.initialized "java/lang/System", Cond.methodLink RJ5 83 ⟨"java/lang/AbstractStringBuilder", "isLatin1", "()Z"⟩, Cond.sameMethod "java/lang/AbstractStringBuilder" "java/lang/AbstractStringBuilder" "isLatin1" "()Z", Cond.selects RJ4 ⟨"java/lang/AbstractStringBuilder", "isLatin1", "()Z"⟩ yJ5_isLatin1_aae02, Cond.instanceMethod yJ5_isLatin1_aae02, Cond.code yJ5_isLatin1_aae02 cJ5_isLatin1_aae02 1 (some .boolean), Cond.methodLink RJ5 226 yJ2_putCharsAt_cd4e5, Cond.static yJ2_putCharsAt_cd4e5, Cond.code yJ2_putCharsAt_cd4e5 cJ2_putCharsAt_cd4e5 7 (some .int), Cond.fieldLink RJ2 44 "java/lang/StringUTF16" "$assertionsDisabled" "Z", Cond.methodLink RJ2 96 yJ2_checkBoundsBeginEnd_d044e, Cond.static yJ2_checkBoundsBeginEnd_d044e, Cond.code yJ2_checkBoundsBeginEnd_d044e cJ2_checkBoundsBeginEnd_d044e 3 none, Cond.methodLink RJ2 48 yJ2_length_9d52b, Cond.static yJ2_length_9d52b, Cond.code yJ2_length_9d52b cJ2_length_9d52b 1 (some .int)]
def wsJx4a65c_outOfBoundsMsg_b52d3_r5 : List Cond := [Cond.methodLink RJ2 241 yJ0_checkBoundsBeginEnd_23922, Cond.static yJ0_checkBoundsBeginEnd_23922, Cond.initialized RJ0, Cond.code yJ0_checkBoundsBeginEnd_23922 cJ0_checkBoundsBeginEnd_23922 3 none, Cond.fieldLink RJ0 1053 "jdk/internal/util/Preconditions" "SIOOBE_FORMATTER" "Ljava/util/function/BiFunction;", Cond.methodLink RJ0 1062 yJ3_checkFromToIndex_8c36e, Cond.static yJ3_checkFromToIndex_8c36e, Cond.initialized RJ3, Cond.code yJ3_checkFromToIndex_8c36e cJ3_checkFromToIndex_8c36e 4 (some .int), Cond.methodLink RJ2 111 yJ2_putChar_b72d1, Cond.static yJ2_putChar_b72d1, Cond.code yJ2_putChar_b72d1 cJ2_putChar_b72d1 3 none, Cond.fieldLink RJ2 59 "java/lang/StringUTF16" "HI_BYTE_SHIFT" "I", Cond.fieldLink RJ2 63 "java/lang/StringUTF16" "LO_BYTE_SHIFT" "I", Cond.methodLink RJ5 32 yJ0_length_8abf5, Cond.instanceMethod yJ0_length_8abf5, Cond.selects RJ0 yJ0_length_8abf5 yJ0_length_8abf5, Cond.code yJ0_length_8abf5 cJ0_length_8abf5 1 (some .int), Cond.fieldLink RJ0 9 "java/lang/String" "value" "[B", Cond.methodLink RJ0 335 yJ0_coder_7d493, Cond.instanceMethod yJ0_coder_7d493, Cond.selects RJ0 yJ0_coder_7d493 yJ0_coder_7d493, Cond.code yJ0_coder_7d493 cJ0_coder_7d493 1 (some .byte), Cond.fieldLink RJ0 38 "java/lang/String" "COMPACT_STRINGS" "Z"]
def wsJx4a65c_outOfBoundsMsg_b52d3_r6 : List Cond := [Cond.fieldLink RJ0 15 "java/lang/String" "coder" "B", Cond.methodLink RJ5 208 ⟨"java/lang/AbstractStringBuilder", "putStringAt", "(ILjava/lang/String;)V"⟩, Cond.sameMethod "java/lang/AbstractStringBuilder" "java/lang/AbstractStringBuilder" "putStringAt" "(ILjava/lang/String;)V", Cond.selects RJ4 ⟨"java/lang/AbstractStringBuilder", "putStringAt", "(ILjava/lang/String;)V"⟩ yJ5_putStringAt_47b60, Cond.instanceMethod yJ5_putStringAt_47b60, Cond.code yJ5_putStringAt_47b60 cJ5_putStringAt_47b60 3 none, Cond.methodLink RJ5 397 ⟨"java/lang/AbstractStringBuilder", "inflateIfNeededFor", "(Ljava/lang/String;)V"⟩, Cond.sameMethod "java/lang/AbstractStringBuilder" "java/lang/AbstractStringBuilder" "inflateIfNeededFor" "(Ljava/lang/String;)V", Cond.selects RJ4 ⟨"java/lang/AbstractStringBuilder", "inflateIfNeededFor", "(Ljava/lang/String;)V"⟩ yJ5_inflateIfNeededFor_a7421, Cond.instanceMethod yJ5_inflateIfNeededFor_a7421, Cond.code yJ5_inflateIfNeededFor_a7421 cJ5_inflateIfNeededFor_a7421 2 none, Cond.methodLink RJ5 40 yJ0_coder_7d493, Cond.methodLink RJ5 195 ⟨"java/lang/AbstractStringBuilder", "inflate", "()V"⟩, Cond.sameMethod "java/lang/AbstractStringBuilder" "java/lang/AbstractStringBuilder" "inflate" "()V", Cond.selects RJ4 ⟨"java/lang/AbstractStringBuilder", "inflate", "()V"⟩ yJ5_inflate_da8c8, Cond.instanceMethod yJ5_inflate_da8c8, Cond.code yJ5_inflate_da8c8 cJ5_inflate_da8c8 2 none, Cond.methodLink RJ5 125 yJ1_inflate_0e8fd, Cond.static yJ1_inflate_0e8fd, Cond.initialized RJ1, Cond.code yJ1_inflate_0e8fd cJ1_inflate_0e8fd 5 none, Cond.methodLink RJ1 240 yJ2_inflate_0e8fd, Cond.static yJ2_inflate_0e8fd, Cond.code yJ2_inflate_0e8fd cJ2_inflate_0e8fd 6 none]
def wsJx4a65c_outOfBoundsMsg_b52d3_r7 : List Cond := [Cond.methodLink RJ2 173 yJ2_checkBoundsOffCount_d044e, Cond.static yJ2_checkBoundsOffCount_d044e, Cond.code yJ2_checkBoundsOffCount_d044e cJ2_checkBoundsOffCount_d044e 3 none, Cond.methodLink RJ2 419 yJ0_checkBoundsOffCount_cabcc, Cond.static yJ0_checkBoundsOffCount_cabcc, Cond.code yJ0_checkBoundsOffCount_cabcc cJ0_checkBoundsOffCount_cabcc 3 (some .int), Cond.methodLink RJ0 1065 yJ3_checkFromIndexSize_8c36e, Cond.static yJ3_checkFromIndexSize_8c36e, Cond.code yJ3_checkFromIndexSize_8c36e cJ3_checkFromIndexSize_8c36e 4 (some .int), Cond.methodLink RJ5 399 yJ0_getBytes_840e7, Cond.instanceMethod yJ0_getBytes_840e7, Cond.selects RJ0 yJ0_getBytes_840e7 yJ0_getBytes_840e7, Cond.code yJ0_getBytes_840e7 cJ0_getBytes_840e7 4 none, Cond.methodLink RJ0 212 arraycopyName, Cond.methodLink RJ0 106 yJ1_inflate_0e8fd, Cond.methodLink RJx4a65c 29 yJ4_append_bf812, Cond.instanceMethod yJ4_append_bf812, Cond.selects RJ4 yJ4_append_bf812 yJ4_append_bf812, Cond.code yJ4_append_bf812 cJ4_append_bf812 2 (some (.object "java/lang/StringBuilder")), Cond.methodLink RJ4 53 yJ5_append_c97b9, Cond.sameMethod "java/lang/AbstractStringBuilder" "java/lang/AbstractStringBuilder" "append" "(I)Ljava/lang/AbstractStringBuilder;", Cond.instanceMethod yJ5_append_c97b9, Cond.code yJ5_append_c97b9 cJ5_append_c97b9 4 (some (.object "java/lang/AbstractStringBuilder")), Cond.methodLink RJ5 245 yJ6_stringSize_0f7a4]
def wsJx4a65c_outOfBoundsMsg_b52d3_r8 : List Cond := [Cond.static yJ6_stringSize_0f7a4, Cond.initialized RJ6, Cond.code yJ6_stringSize_0f7a4 cJ6_stringSize_0f7a4 4 (some .int), Cond.methodLink RJ5 248 yJ6_getChars_ba4f3, Cond.static yJ6_getChars_ba4f3, Cond.code yJ6_getChars_ba4f3 cJ6_getChars_ba4f3 7 (some .int), Cond.fieldLink RJ6 83 "java/lang/Integer" "DigitOnes" "[B", Cond.fieldLink RJ6 87 "java/lang/Integer" "DigitTens" "[B", Cond.methodLink RJ5 251 yJ2_getChars_46870, Cond.static yJ2_getChars_46870, Cond.code yJ2_getChars_46870 cJ2_getChars_46870 5 (some .int), Cond.methodLink RJ2 393 yJ2_getChars_ba4f3, Cond.static yJ2_getChars_ba4f3, Cond.code yJ2_getChars_ba4f3 cJ2_getChars_ba4f3 7 (some .int), Cond.fieldLink RJ2 403 "java/lang/Integer" "DigitOnes" "[B", Cond.fieldLink RJ2 407 "java/lang/Integer" "DigitTens" "[B", Cond.methodLink RJx4a65c 32 yJ4_toString_0e30d, Cond.instanceMethod yJ4_toString_0e30d, Cond.selects RJ4 yJ4_toString_0e30d yJ4_toString_0e30d, Cond.code yJ4_toString_0e30d cJ4_toString_0e30d 1 (some (.object "java/lang/String")), Cond.classLink RJ4 18 RJ0, Cond.instantiable RJ0 4, Cond.methodLink RJ4 137 yJ0_init_81219, Cond.instanceMethod yJ0_init_81219]
def wsJx4a65c_outOfBoundsMsg_b52d3_r9 : List Cond := [Cond.code yJ0_init_81219 cJ0_init_81219 2 none, Cond.methodLink RJ0 489 yJ0_init_db425, Cond.instanceMethod yJ0_init_db425, Cond.code yJ0_init_db425 cJ0_init_db425 5 none, Cond.methodLink RJ0 1 objectInit, Cond.fieldLink RJ0 1048 "java/lang/AbstractStringBuilder" "maybeLatin1" "Z", Cond.methodLink RJ0 552 ⟨"java/lang/AbstractStringBuilder", "getValue", "()[B"⟩, Cond.sameMethod "java/lang/AbstractStringBuilder" "java/lang/AbstractStringBuilder" "getValue" "()[B", Cond.selects RJ4 ⟨"java/lang/AbstractStringBuilder", "getValue", "()[B"⟩ yJ5_getValue_6d5f1, Cond.instanceMethod yJ5_getValue_6d5f1, Cond.code yJ5_getValue_6d5f1 cJ5_getValue_6d5f1 1 (some (.array .byte)), Cond.methodLink RJ0 549 ⟨"java/lang/AbstractStringBuilder", "length", "()I"⟩, Cond.sameMethod "java/lang/AbstractStringBuilder" "java/lang/AbstractStringBuilder" "length" "()I", Cond.instanceMethod ⟨"java/lang/AbstractStringBuilder", "length", "()I"⟩, Cond.selects RJ4 ⟨"java/lang/AbstractStringBuilder", "length", "()I"⟩ yJ4_length_8abf5, Cond.instanceMethod yJ4_length_8abf5, Cond.code yJ4_length_8abf5 cJ4_length_8abf5 1 (some .int), Cond.methodLink RJ4 343 yJ5_length_8abf5, Cond.instanceMethod yJ5_length_8abf5, Cond.code yJ5_length_8abf5 cJ5_length_8abf5 1 (some .int), Cond.methodLink RJ0 1047 ⟨"java/lang/AbstractStringBuilder", "isLatin1", "()Z"⟩, Cond.methodLink RJ0 54 yJ7_copyOfRange_39247, Cond.static yJ7_copyOfRange_39247, Cond.code yJ7_copyOfRange_39247 cJ7_copyOfRange_39247 3 (some (.array .byte))]
def wsJx4a65c_outOfBoundsMsg_b52d3_r10 : List Cond := [Cond.methodLink RJ7 339 yJ7_copyOfRangeByte_39247, Cond.static yJ7_copyOfRangeByte_39247, Cond.code yJ7_copyOfRangeByte_39247 cJ7_copyOfRangeByte_39247 5 (some (.array .byte)), Cond.methodLink RJ7 343 yJ7_checkLength_df160, Cond.static yJ7_checkLength_df160, Cond.code yJ7_checkLength_df160 cJ7_checkLength_df160 2 none, Cond.classLink RJ7 45 RJ4, Cond.methodLink RJ0 1051 yJ2_compress_39247, Cond.static yJ2_compress_39247, Cond.code yJ2_compress_39247 cJ2_compress_39247 6 (some (.array .byte)), Cond.methodLink RJ2 123 yJ2_compress_5af95, Cond.static yJ2_compress_5af95, Cond.code yJ2_compress_5af95 cJ2_compress_5af95 7 (some .int), Cond.methodLink RJ2 71 yJ2_getChar_3b067, Cond.static yJ2_getChar_3b067, Cond.code yJ2_getChar_3b067 cJ2_getChar_3b067 2 (some .char), Cond.methodLink RJ2 126 yJ7_copyOfRange_39247, Cond.methodLink RJ0 47 yJ2_coderFromArrayLen_85cad, Cond.static yJ2_coderFromArrayLen_85cad, Cond.code yJ2_coderFromArrayLen_85cad cJ2_coderFromArrayLen_85cad 2 (some .byte)]
def wsJx4a65c_outOfBoundsMsg_b52d3 : List Cond := .code yJx4a65c_outOfBoundsMsg_b52d3 cJx4a65c_outOfBoundsMsg_b52d3 2 (some (.object "java/lang/String")) :: ((wsJx4a65c_outOfBoundsMsg_b52d3_r1 ++ (wsJx4a65c_outOfBoundsMsg_b52d3_r2 ++ (wsJx4a65c_outOfBoundsMsg_b52d3_r3 ++ (wsJx4a65c_outOfBoundsMsg_b52d3_r4 ++ (wsJx4a65c_outOfBoundsMsg_b52d3_r5 ++ (wsJx4a65c_outOfBoundsMsg_b52d3_r6 ++ (wsJx4a65c_outOfBoundsMsg_b52d3_r7 ++ (wsJx4a65c_outOfBoundsMsg_b52d3_r8 ++ (wsJx4a65c_outOfBoundsMsg_b52d3_r9 ++ wsJx4a65c_outOfBoundsMsg_b52d3_r10))))))))) ++ wsJ40 ++ wsJx4a65c0 ++ wsJ00)
def wsL_open_r1 : List Cond := [Cond.classLink RL 13 "java/lang/IllegalArgumentException", Cond.classLink RL 15 "java/lang/IllegalStateException", Cond.methodLink RL 7 yX6_open, Cond.instanceMethod yX6_open, Cond.selects RX6 yX6_open yX6_open, Cond.initialized RX6, Cond.code yX6_open cX6_open 2 (some .int), Cond.classLink RX6 54 "java/lang/IllegalStateException", Cond.initialized "java/lang/IllegalStateException", Cond.fieldLink RX6 10 "Backdater" "policies" "Ljava/util/List;", Cond.classLink RX6 61 RX2, Cond.instantiable RX2 3, Cond.initialized RX2, Cond.methodLink RX6 44 yX6_demandWithin, Cond.static yX6_demandWithin, Cond.code yX6_demandWithin cX6_demandWithin 3 none, Cond.classLink RX6 180 "java/lang/IllegalArgumentException", Cond.initialized "java/lang/IllegalArgumentException", Cond.methodLink RX6 48 ⟨"java/util/List", "size", "()I"⟩, Cond.selects RJx4a65c ⟨"java/util/List", "size", "()I"⟩ yJx4a65c_size_8abf5, Cond.instanceMethod yJx4a65c_size_8abf5, Cond.initialized RJx4a65c, Cond.code yJx4a65c_size_8abf5 cJx4a65c_size_8abf5 1 (some .int), Cond.fieldLink RJx4a65c 48 "java/util/ArrayList" "size" "I"]
def wsL_open_r2 : List Cond := [Cond.methodLink RX6 63 yX2_init, Cond.instanceMethod yX2_init, Cond.code yX2_init cX2_init 2 none, Cond.methodLink RX2 1 objectInit, Cond.instanceMethod objectInit, Cond.code objectInit ⟨#[0xb1]⟩ 1 none, Cond.classLink RX2 7 RJx4a65c, Cond.instantiable RJx4a65c 3, Cond.fieldLink RX2 10 "Backdater$Policy" "inOrder" "Ljava/util/List;", Cond.fieldLink RX2 16 "Backdater$Policy" "billedSoFar" "I", Cond.fieldLink RX2 20 "Backdater$Policy" "base" "I", Cond.methodLink RX2 9 yJx4a65c_init_da8c8, Cond.instanceMethod yJx4a65c_init_da8c8, Cond.code yJx4a65c_init_da8c8 cJx4a65c_init_da8c8 1 none, Cond.fieldLink RJx4a65c 39 "java/util/ArrayList" "DEFAULTCAPACITY_EMPTY_ELEMENTDATA" "[Ljava/lang/Object;", Cond.fieldLink RJx4a65c 9 "java/util/ArrayList" "elementData" "[Ljava/lang/Object;", Cond.methodLink RJx4a65c 1 yJxc12de_init_da8c8, Cond.instanceMethod yJxc12de_init_da8c8, Cond.initialized RJxc12de, Cond.code yJxc12de_init_da8c8 cJxc12de_init_da8c8 1 none, Cond.fieldLink RJxc12de 7 "java/util/AbstractList" "modCount" "I", Cond.methodLink RJxc12de 1 yJxa1e45_init_da8c8, Cond.instanceMethod yJxa1e45_init_da8c8, Cond.initialized RJxa1e45]
def wsL_open_r3 : List Cond := [Cond.code yJxa1e45_init_da8c8 cJxa1e45_init_da8c8 1 none, Cond.methodLink RJxa1e45 1 objectInit, Cond.methodLink RX6 66 ⟨"java/util/List", "add", "(Ljava/lang/Object;)Z"⟩, Cond.selects RJx4a65c ⟨"java/util/List", "add", "(Ljava/lang/Object;)Z"⟩ yJx4a65c_add_9ea2d, Cond.instanceMethod yJx4a65c_add_9ea2d, Cond.code yJx4a65c_add_9ea2d cJx4a65c_add_9ea2d 2 (some .boolean), Cond.fieldLink RJx4a65c 63 "java/util/ArrayList" "modCount" "I", Cond.sameField "java/util/ArrayList" "java/util/AbstractList" "modCount" "I", Cond.methodLink RJx4a65c 131 yJx4a65c_add_72be8, Cond.instanceMethod yJx4a65c_add_72be8, Cond.selects RJx4a65c yJx4a65c_add_72be8 yJx4a65c_add_72be8, Cond.code yJx4a65c_add_72be8 cJx4a65c_add_72be8 4 none, Cond.methodLink RJx4a65c 129 yJx4a65c_grow_d5877, Cond.instanceMethod yJx4a65c_grow_d5877, Cond.selects RJx4a65c yJx4a65c_grow_d5877 yJx4a65c_grow_d5877, Cond.code yJx4a65c_grow_d5877 cJx4a65c_grow_d5877 1 (some (.array (.object "java/lang/Object"))), Cond.methodLink RJx4a65c 69 yJx4a65c_grow_92f84, Cond.instanceMethod yJx4a65c_grow_92f84, Cond.selects RJx4a65c yJx4a65c_grow_92f84 yJx4a65c_grow_92f84, Cond.code yJx4a65c_grow_92f84 cJx4a65c_grow_92f84 4 (some (.array (.object "java/lang/Object"))), Cond.methodLink RJx4a65c 79 Lib.Math.max.name, Cond.static Lib.Math.max.name, Cond.initialized "java/lang/Math", Cond.code Lib.Math.max.name Lib.Math.max.code 2 (some .int)]
def wsL_open_r4 : List Cond := [Cond.classLink RJx4a65c 7 "java/lang/Object", Cond.methodLink RJx4a65c 73 yJ8_newLength_cabcc, Cond.static yJ8_newLength_cabcc, Cond.initialized RJ8, Cond.code yJ8_newLength_cabcc cJ8_newLength_cabcc 4 (some .int), Cond.methodLink RJ8 194 Lib.Math.max.name, Cond.constant RJ8 200 (2147483639), Cond.methodLink RJ8 201 yJ8_hugeLength_7cf53, Cond.static yJ8_hugeLength_7cf53, Cond.code yJ8_hugeLength_7cf53 cJ8_hugeLength_7cf53 3 (some .int), Cond.methodLink RJx4a65c 66 yJ7_copyOf_1904c, Cond.static yJ7_copyOf_1904c, Cond.initialized RJ7, Cond.code yJ7_copyOf_1904c cJ7_copyOf_1904c 2 (some (.array (.object "java/lang/Object"))), Cond.methodLink RJ7 86 ⟨"java/lang/Object", "getClass", "()Ljava/lang/Class;"⟩, Cond.selects "[Ljava/lang/Object;" ⟨"java/lang/Object", "getClass", "()Ljava/lang/Class;"⟩ ⟨"java/lang/Object", "getClass", "()Ljava/lang/Class;"⟩, Cond.instanceMethod ⟨"java/lang/Object", "getClass", "()Ljava/lang/Class;"⟩, Cond.native ⟨"java/lang/Object", "getClass", "()Ljava/lang/Class;"⟩, Cond.methodLink RJ7 300 yJ7_copyOf_6403c, Cond.static yJ7_copyOf_6403c, Cond.code yJ7_copyOf_6403c cJ7_copyOf_6403c 4 (some (.array (.object "java/lang/Object"))), Cond.classLink RJ7 110 "[Ljava/lang/Object;", Cond.classLink RJ7 2 "java/lang/Object", Cond.methodLink RJ7 304 Lib.Math.min.name]
def wsL_open_r5 : List Cond := [Cond.static Lib.Math.min.name, Cond.code Lib.Math.min.name Lib.Math.min.code 2 (some .int), Cond.methodLink RJ7 150 arraycopyName, Cond.native arraycopyName, Cond.static arraycopyName, Cond.initialized "java/lang/System"]
def wsL_open : List Cond := .codeWith yL_open cL_open 4 (some .int) [(0, 9, 12, 13), (0, 9, 15, 15)] :: ((wsL_open_r1 ++ (wsL_open_r2 ++ (wsL_open_r3 ++ (wsL_open_r4 ++ wsL_open_r5)))) ++ wsX60 ++ wsX20 ++ wsJx4a65c0 ++ (vx_atS RX6 58 "java/lang/IllegalStateException" ["java/lang/RuntimeException", "java/lang/Exception"]).filter goodWord ++ (vx_atS RX6 184 "java/lang/IllegalArgumentException" ["java/lang/RuntimeException", "java/lang/Exception"]).filter goodWord)
def wsL_setWeight_r1 : List Cond := [Cond.classLink RL 21 "java/lang/IndexOutOfBoundsException", Cond.classLink RL 13 "java/lang/IllegalArgumentException", Cond.classLink RL 15 "java/lang/IllegalStateException", Cond.methodLink RL 17 yX6_setWeight, Cond.instanceMethod yX6_setWeight, Cond.selects RX6 yX6_setWeight yX6_setWeight, Cond.initialized RX6, Cond.code yX6_setWeight cX6_setWeight 4 (some .int), Cond.classLink RX6 54 "java/lang/IllegalStateException", Cond.initialized "java/lang/IllegalStateException", Cond.fieldLink RX6 22 "Backdater" "tariffs" "LBackdater$Tariffs;", Cond.fieldLink RX6 76 "Backdater$Tariffs" "count" "I", Cond.methodLink RX6 70 yX6_demandField, Cond.static yX6_demandField, Cond.code yX6_demandField cX6_demandField 1 none, Cond.classLink RX6 188 "java/lang/IndexOutOfBoundsException", Cond.initialized "java/lang/IndexOutOfBoundsException", Cond.methodLink RX6 185 yX6_isField, Cond.static yX6_isField, Cond.code yX6_isField cX6_isField 1 (some .boolean), Cond.methodLink RX6 44 yX6_demandWithin, Cond.static yX6_demandWithin, Cond.code yX6_demandWithin cX6_demandWithin 3 none, Cond.classLink RX6 180 "java/lang/IllegalArgumentException"]
def wsL_setWeight_r2 : List Cond := [Cond.initialized "java/lang/IllegalArgumentException", Cond.methodLink RX6 73 yX6_demandDay, Cond.static yX6_demandDay, Cond.code yX6_demandDay cX6_demandDay 1 none, Cond.methodLink RX6 81 yX3_tell, Cond.instanceMethod yX3_tell, Cond.selects RX3 yX3_tell yX3_tell, Cond.initialized RX3, Cond.code yX3_tell cX3_tell 5 none, Cond.fieldLink RX3 16 "Backdater$Tariffs" "since" "[[I", Cond.fieldLink RX3 11 "Backdater$Tariffs" "weights" "[[I", Cond.fieldLink RX3 19 "Backdater$Tariffs" "count" "I"]
def wsL_setWeight : List Cond := .codeWith yL_setWeight cL_setWeight 6 (some .int) [(0, 12, 15, 21), (0, 12, 19, 13), (0, 12, 23, 15)] :: ((wsL_setWeight_r1 ++ wsL_setWeight_r2) ++ wsX60 ++ wsX30 ++ (vx_atS RX6 58 "java/lang/IllegalStateException" ["java/lang/RuntimeException", "java/lang/Exception"]).filter goodWord ++ (vx_atS RX6 192 "java/lang/IndexOutOfBoundsException" ["java/lang/RuntimeException", "java/lang/Exception"]).filter goodWord ++ (vx_atS RX6 184 "java/lang/IllegalArgumentException" ["java/lang/RuntimeException", "java/lang/Exception"]).filter goodWord)
def wsL_pass : List Cond := .codeWith yL_pass cL_pass 4 (some .int) [(0, 9, 12, 13)] :: ([.classLink RL 13 "java/lang/IllegalArgumentException", .methodLink RL 23 yX6_pass, .instanceMethod yX6_pass, .selects RX6 yX6_pass yX6_pass, .initialized RX6, .code yX6_pass cX6_pass 2 (some .int), .fieldLink RX6 40 "Backdater" "currentDay" "I", .methodLink RX6 44 yX6_demandWithin, .static yX6_demandWithin, .code yX6_demandWithin cX6_demandWithin 3 none, .classLink RX6 180 "java/lang/IllegalArgumentException", .initialized "java/lang/IllegalArgumentException"] ++ wsX60 ++ (vx_atS RX6 184 "java/lang/IllegalArgumentException" ["java/lang/RuntimeException", "java/lang/Exception"]).filter goodWord)
def wsL_change_r1 : List Cond := [Cond.classLink RL 21 "java/lang/IndexOutOfBoundsException", Cond.classLink RL 13 "java/lang/IllegalArgumentException", Cond.classLink RL 15 "java/lang/IllegalStateException", Cond.methodLink RL 26 yX6_change, Cond.instanceMethod yX6_change, Cond.selects RX6 yX6_change yX6_change, Cond.initialized RX6, Cond.code yX6_change cX6_change 6 (some .int), Cond.fieldLink RX6 88 "Backdater$Kind" "SET" "LBackdater$Kind;", Cond.methodLink RX6 84 yX6_policyNumbered, Cond.instanceMethod yX6_policyNumbered, Cond.selects RX6 yX6_policyNumbered yX6_policyNumbered, Cond.code yX6_policyNumbered cX6_policyNumbered 2 (some (.object "Backdater$Policy")), Cond.classLink RX6 188 "java/lang/IndexOutOfBoundsException", Cond.initialized "java/lang/IndexOutOfBoundsException", Cond.fieldLink RX6 10 "Backdater" "policies" "Ljava/util/List;", Cond.classLink RX6 61 "Backdater$Policy", Cond.methodLink RX6 48 ⟨"java/util/List", "size", "()I"⟩, Cond.selects RJx4a65c ⟨"java/util/List", "size", "()I"⟩ yJx4a65c_size_8abf5, Cond.instanceMethod yJx4a65c_size_8abf5, Cond.initialized RJx4a65c, Cond.code yJx4a65c_size_8abf5 cJx4a65c_size_8abf5 1 (some .int), Cond.fieldLink RJx4a65c 48 "java/util/ArrayList" "size" "I", Cond.methodLink RX6 127 ⟨"java/util/List", "get", "(I)Ljava/lang/Object;"⟩]
def wsL_change_r2 : List Cond := [Cond.selects RJx4a65c ⟨"java/util/List", "get", "(I)Ljava/lang/Object;"⟩ yJx4a65c_get_915e3, Cond.instanceMethod yJx4a65c_get_915e3, Cond.code yJx4a65c_get_915e3 cJx4a65c_get_915e3 2 (some (.object "java/lang/Object")), Cond.methodLink RJx4a65c 118 yJ15_checkIndex_7cf53, Cond.static yJ15_checkIndex_7cf53, Cond.initialized RJ15, Cond.code yJ15_checkIndex_7cf53 cJ15_checkIndex_7cf53 2 (some .int), Cond.methodLink RJ15 105 yJ3_checkIndex_8e157, Cond.static yJ3_checkIndex_8e157, Cond.initialized RJ3, Cond.code yJ3_checkIndex_8e157 cJ3_checkIndex_8e157 3 (some .int), Cond.methodLink RJx4a65c 123 yJx4a65c_elementData_915e3, Cond.instanceMethod yJx4a65c_elementData_915e3, Cond.selects RJx4a65c yJx4a65c_elementData_915e3 yJx4a65c_elementData_915e3, Cond.code yJx4a65c_elementData_915e3 cJx4a65c_elementData_915e3 2 (some (.object "java/lang/Object")), Cond.fieldLink RJx4a65c 9 "java/util/ArrayList" "elementData" "[Ljava/lang/Object;", Cond.methodLink RX6 70 yX6_demandField, Cond.static yX6_demandField, Cond.code yX6_demandField cX6_demandField 1 none, Cond.methodLink RX6 185 yX6_isField, Cond.static yX6_isField, Cond.code yX6_isField cX6_isField 1 (some .boolean), Cond.methodLink RX6 73 yX6_demandDay, Cond.static yX6_demandDay]
def wsL_change_r3 : List Cond := [Cond.code yX6_demandDay cX6_demandDay 1 none, Cond.methodLink RX6 44 yX6_demandWithin, Cond.static yX6_demandWithin, Cond.code yX6_demandWithin cX6_demandWithin 3 none, Cond.classLink RX6 180 "java/lang/IllegalArgumentException", Cond.initialized "java/lang/IllegalArgumentException", Cond.methodLink RX6 94 yX6_tell, Cond.instanceMethod yX6_tell, Cond.selects RX6 yX6_tell yX6_tell, Cond.code yX6_tell cX6_tell 7 (some .int), Cond.classLink RX6 54 "java/lang/IllegalStateException", Cond.initialized "java/lang/IllegalStateException", Cond.fieldLink RX6 16 "Backdater" "told" "Ljava/util/List;", Cond.classLink RX6 111 RX0, Cond.instantiable RX0 8, Cond.initialized RX0, Cond.fieldLink RX6 40 "Backdater" "currentDay" "I", Cond.fieldLink RX6 131 "Backdater$Change" "number" "I", Cond.methodLink RX6 199 yX0_init, Cond.instanceMethod yX0_init, Cond.code yX0_init cX0_init 8 none, Cond.methodLink RX0 3 objectInit, Cond.instanceMethod objectInit, Cond.code objectInit ⟨#[0xb1]⟩ 1 none]
def wsL_change_r4 : List Cond := [Cond.fieldLink RX0 9 "Backdater$Change" "takenBackOn" "I", Cond.fieldLink RX0 15 "Backdater$Change" "number" "I", Cond.fieldLink RX0 18 "Backdater$Change" "policy" "LBackdater$Policy;", Cond.fieldLink RX0 22 "Backdater$Change" "kind" "LBackdater$Kind;", Cond.fieldLink RX0 26 "Backdater$Change" "field" "I", Cond.fieldLink RX0 29 "Backdater$Change" "from" "I", Cond.fieldLink RX0 32 "Backdater$Change" "amount" "I", Cond.fieldLink RX0 35 "Backdater$Change" "toldOn" "I", Cond.methodLink RX6 66 ⟨"java/util/List", "add", "(Ljava/lang/Object;)Z"⟩, Cond.selects RJx4a65c ⟨"java/util/List", "add", "(Ljava/lang/Object;)Z"⟩ yJx4a65c_add_9ea2d, Cond.instanceMethod yJx4a65c_add_9ea2d, Cond.code yJx4a65c_add_9ea2d cJx4a65c_add_9ea2d 2 (some .boolean), Cond.fieldLink RJx4a65c 63 "java/util/ArrayList" "modCount" "I", Cond.sameField "java/util/ArrayList" "java/util/AbstractList" "modCount" "I", Cond.methodLink RJx4a65c 131 yJx4a65c_add_72be8, Cond.instanceMethod yJx4a65c_add_72be8, Cond.selects RJx4a65c yJx4a65c_add_72be8 yJx4a65c_add_72be8, Cond.code yJx4a65c_add_72be8 cJx4a65c_add_72be8 4 none, Cond.methodLink RJx4a65c 129 yJx4a65c_grow_d5877, Cond.instanceMethod yJx4a65c_grow_d5877, Cond.selects RJx4a65c yJx4a65c_grow_d5877 yJx4a65c_grow_d5877, Cond.code yJx4a65c_grow_d5877 cJx4a65c_grow_d5877 1 (some (.array (.object "java/lang/Object"))), Cond.methodLink RJx4a65c 69 yJx4a65c_grow_92f84, Cond.instanceMethod yJx4a65c_grow_92f84]
def wsL_change_r5 : List Cond := [Cond.selects RJx4a65c yJx4a65c_grow_92f84 yJx4a65c_grow_92f84, Cond.code yJx4a65c_grow_92f84 cJx4a65c_grow_92f84 4 (some (.array (.object "java/lang/Object"))), Cond.fieldLink RJx4a65c 39 "java/util/ArrayList" "DEFAULTCAPACITY_EMPTY_ELEMENTDATA" "[Ljava/lang/Object;", Cond.methodLink RJx4a65c 79 Lib.Math.max.name, Cond.static Lib.Math.max.name, Cond.initialized "java/lang/Math", Cond.code Lib.Math.max.name Lib.Math.max.code 2 (some .int), Cond.classLink RJx4a65c 7 "java/lang/Object", Cond.methodLink RJx4a65c 73 yJ8_newLength_cabcc, Cond.static yJ8_newLength_cabcc, Cond.initialized RJ8, Cond.code yJ8_newLength_cabcc cJ8_newLength_cabcc 4 (some .int), Cond.methodLink RJ8 194 Lib.Math.max.name, Cond.constant RJ8 200 (2147483639), Cond.methodLink RJ8 201 yJ8_hugeLength_7cf53, Cond.static yJ8_hugeLength_7cf53, Cond.code yJ8_hugeLength_7cf53 cJ8_hugeLength_7cf53 3 (some .int), Cond.methodLink RJx4a65c 66 yJ7_copyOf_1904c, Cond.static yJ7_copyOf_1904c, Cond.initialized RJ7, Cond.code yJ7_copyOf_1904c cJ7_copyOf_1904c 2 (some (.array (.object "java/lang/Object"))), Cond.methodLink RJ7 86 ⟨"java/lang/Object", "getClass", "()Ljava/lang/Class;"⟩, Cond.selects "[Ljava/lang/Object;" ⟨"java/lang/Object", "getClass", "()Ljava/lang/Class;"⟩ ⟨"java/lang/Object", "getClass", "()Ljava/lang/Class;"⟩, Cond.instanceMethod ⟨"java/lang/Object", "getClass", "()Ljava/lang/Class;"⟩]
def wsL_change_r6 : List Cond := [Cond.native ⟨"java/lang/Object", "getClass", "()Ljava/lang/Class;"⟩, Cond.methodLink RJ7 300 yJ7_copyOf_6403c, Cond.static yJ7_copyOf_6403c, Cond.code yJ7_copyOf_6403c cJ7_copyOf_6403c 4 (some (.array (.object "java/lang/Object"))), Cond.classLink RJ7 110 "[Ljava/lang/Object;", Cond.classLink RJ7 2 "java/lang/Object", Cond.methodLink RJ7 304 Lib.Math.min.name, Cond.static Lib.Math.min.name, Cond.code Lib.Math.min.name Lib.Math.min.code 2 (some .int), Cond.methodLink RJ7 150 arraycopyName, Cond.native arraycopyName, Cond.static arraycopyName, Cond.initialized "java/lang/System", Cond.methodLink RX6 202 yX2_putInOrder, Cond.instanceMethod yX2_putInOrder, Cond.selects RX2 yX2_putInOrder yX2_putInOrder, Cond.initialized RX2, Cond.code yX2_putInOrder cX2_putInOrder 3 none, Cond.fieldLink RX2 10 "Backdater$Policy" "inOrder" "Ljava/util/List;", Cond.classLink RX2 33 "Backdater$Change", Cond.fieldLink RX2 35 "Backdater$Change" "from" "I", Cond.methodLink RX2 23 ⟨"java/util/List", "size", "()I"⟩, Cond.methodLink RX2 29 ⟨"java/util/List", "get", "(I)Ljava/lang/Object;"⟩, Cond.methodLink RX2 38 ⟨"java/util/List", "add", "(ILjava/lang/Object;)V"⟩]
def wsL_change_r7 : List Cond := [Cond.selects RJx4a65c ⟨"java/util/List", "add", "(ILjava/lang/Object;)V"⟩ yJx4a65c_add_7a177, Cond.instanceMethod yJx4a65c_add_7a177, Cond.code yJx4a65c_add_7a177 cJx4a65c_add_7a177 5 none, Cond.methodLink RJx4a65c 112 arraycopyName, Cond.methodLink RJx4a65c 135 yJx4a65c_rangeCheckForAdd_d00df, Cond.instanceMethod yJx4a65c_rangeCheckForAdd_d00df, Cond.selects RJx4a65c yJx4a65c_rangeCheckForAdd_d00df yJx4a65c_rangeCheckForAdd_d00df, Cond.code yJx4a65c_rangeCheckForAdd_d00df cJx4a65c_rangeCheckForAdd_d00df 2 none]
def wsL_change : List Cond := .codeWith yL_change cL_change 7 (some .int) [(0, 14, 17, 21), (0, 14, 21, 13), (0, 14, 25, 15)] :: ((wsL_change_r1 ++ (wsL_change_r2 ++ (wsL_change_r3 ++ (wsL_change_r4 ++ (wsL_change_r5 ++ (wsL_change_r6 ++ wsL_change_r7)))))) ++ wsX60 ++ wsJx4a65c0 ++ wsX00 ++ wsX20 ++ (vx_atS RX6 192 "java/lang/IndexOutOfBoundsException" ["java/lang/RuntimeException", "java/lang/Exception"]).filter goodWord ++ (vx_atS RX6 184 "java/lang/IllegalArgumentException" ["java/lang/RuntimeException", "java/lang/Exception"]).filter goodWord ++ (vx_atS RX6 58 "java/lang/IllegalStateException" ["java/lang/RuntimeException", "java/lang/Exception"]).filter goodWord)
def wsL_add_r1 : List Cond := [Cond.classLink RL 21 "java/lang/IndexOutOfBoundsException", Cond.classLink RL 13 "java/lang/IllegalArgumentException", Cond.classLink RL 15 "java/lang/IllegalStateException", Cond.methodLink RL 30 yX6_add, Cond.instanceMethod yX6_add, Cond.selects RX6 yX6_add yX6_add, Cond.initialized RX6, Cond.code yX6_add cX6_add 6 (some .int), Cond.fieldLink RX6 97 "Backdater$Kind" "ADD" "LBackdater$Kind;", Cond.methodLink RX6 84 yX6_policyNumbered, Cond.instanceMethod yX6_policyNumbered, Cond.selects RX6 yX6_policyNumbered yX6_policyNumbered, Cond.code yX6_policyNumbered cX6_policyNumbered 2 (some (.object "Backdater$Policy")), Cond.classLink RX6 188 "java/lang/IndexOutOfBoundsException", Cond.initialized "java/lang/IndexOutOfBoundsException", Cond.fieldLink RX6 10 "Backdater" "policies" "Ljava/util/List;", Cond.classLink RX6 61 "Backdater$Policy", Cond.methodLink RX6 48 ⟨"java/util/List", "size", "()I"⟩, Cond.selects RJx4a65c ⟨"java/util/List", "size", "()I"⟩ yJx4a65c_size_8abf5, Cond.instanceMethod yJx4a65c_size_8abf5, Cond.initialized RJx4a65c, Cond.code yJx4a65c_size_8abf5 cJx4a65c_size_8abf5 1 (some .int), Cond.fieldLink RJx4a65c 48 "java/util/ArrayList" "size" "I", Cond.methodLink RX6 127 ⟨"java/util/List", "get", "(I)Ljava/lang/Object;"⟩]
def wsL_add_r2 : List Cond := [Cond.selects RJx4a65c ⟨"java/util/List", "get", "(I)Ljava/lang/Object;"⟩ yJx4a65c_get_915e3, Cond.instanceMethod yJx4a65c_get_915e3, Cond.code yJx4a65c_get_915e3 cJx4a65c_get_915e3 2 (some (.object "java/lang/Object")), Cond.methodLink RJx4a65c 118 yJ15_checkIndex_7cf53, Cond.static yJ15_checkIndex_7cf53, Cond.initialized RJ15, Cond.code yJ15_checkIndex_7cf53 cJ15_checkIndex_7cf53 2 (some .int), Cond.methodLink RJ15 105 yJ3_checkIndex_8e157, Cond.static yJ3_checkIndex_8e157, Cond.initialized RJ3, Cond.code yJ3_checkIndex_8e157 cJ3_checkIndex_8e157 3 (some .int), Cond.methodLink RJx4a65c 123 yJx4a65c_elementData_915e3, Cond.instanceMethod yJx4a65c_elementData_915e3, Cond.selects RJx4a65c yJx4a65c_elementData_915e3 yJx4a65c_elementData_915e3, Cond.code yJx4a65c_elementData_915e3 cJx4a65c_elementData_915e3 2 (some (.object "java/lang/Object")), Cond.fieldLink RJx4a65c 9 "java/util/ArrayList" "elementData" "[Ljava/lang/Object;", Cond.methodLink RX6 70 yX6_demandField, Cond.static yX6_demandField, Cond.code yX6_demandField cX6_demandField 1 none, Cond.methodLink RX6 185 yX6_isField, Cond.static yX6_isField, Cond.code yX6_isField cX6_isField 1 (some .boolean), Cond.methodLink RX6 73 yX6_demandDay, Cond.static yX6_demandDay]
def wsL_add_r3 : List Cond := [Cond.code yX6_demandDay cX6_demandDay 1 none, Cond.methodLink RX6 44 yX6_demandWithin, Cond.static yX6_demandWithin, Cond.code yX6_demandWithin cX6_demandWithin 3 none, Cond.classLink RX6 180 "java/lang/IllegalArgumentException", Cond.initialized "java/lang/IllegalArgumentException", Cond.methodLink RX6 94 yX6_tell, Cond.instanceMethod yX6_tell, Cond.selects RX6 yX6_tell yX6_tell, Cond.code yX6_tell cX6_tell 7 (some .int), Cond.classLink RX6 54 "java/lang/IllegalStateException", Cond.initialized "java/lang/IllegalStateException", Cond.fieldLink RX6 16 "Backdater" "told" "Ljava/util/List;", Cond.classLink RX6 111 RX0, Cond.instantiable RX0 8, Cond.initialized RX0, Cond.fieldLink RX6 40 "Backdater" "currentDay" "I", Cond.fieldLink RX6 131 "Backdater$Change" "number" "I", Cond.methodLink RX6 199 yX0_init, Cond.instanceMethod yX0_init, Cond.code yX0_init cX0_init 8 none, Cond.methodLink RX0 3 objectInit, Cond.instanceMethod objectInit, Cond.code objectInit ⟨#[0xb1]⟩ 1 none]
def wsL_add_r4 : List Cond := [Cond.fieldLink RX0 9 "Backdater$Change" "takenBackOn" "I", Cond.fieldLink RX0 15 "Backdater$Change" "number" "I", Cond.fieldLink RX0 18 "Backdater$Change" "policy" "LBackdater$Policy;", Cond.fieldLink RX0 22 "Backdater$Change" "kind" "LBackdater$Kind;", Cond.fieldLink RX0 26 "Backdater$Change" "field" "I", Cond.fieldLink RX0 29 "Backdater$Change" "from" "I", Cond.fieldLink RX0 32 "Backdater$Change" "amount" "I", Cond.fieldLink RX0 35 "Backdater$Change" "toldOn" "I", Cond.methodLink RX6 66 ⟨"java/util/List", "add", "(Ljava/lang/Object;)Z"⟩, Cond.selects RJx4a65c ⟨"java/util/List", "add", "(Ljava/lang/Object;)Z"⟩ yJx4a65c_add_9ea2d, Cond.instanceMethod yJx4a65c_add_9ea2d, Cond.code yJx4a65c_add_9ea2d cJx4a65c_add_9ea2d 2 (some .boolean), Cond.fieldLink RJx4a65c 63 "java/util/ArrayList" "modCount" "I", Cond.sameField "java/util/ArrayList" "java/util/AbstractList" "modCount" "I", Cond.methodLink RJx4a65c 131 yJx4a65c_add_72be8, Cond.instanceMethod yJx4a65c_add_72be8, Cond.selects RJx4a65c yJx4a65c_add_72be8 yJx4a65c_add_72be8, Cond.code yJx4a65c_add_72be8 cJx4a65c_add_72be8 4 none, Cond.methodLink RJx4a65c 129 yJx4a65c_grow_d5877, Cond.instanceMethod yJx4a65c_grow_d5877, Cond.selects RJx4a65c yJx4a65c_grow_d5877 yJx4a65c_grow_d5877, Cond.code yJx4a65c_grow_d5877 cJx4a65c_grow_d5877 1 (some (.array (.object "java/lang/Object"))), Cond.methodLink RJx4a65c 69 yJx4a65c_grow_92f84, Cond.instanceMethod yJx4a65c_grow_92f84]
def wsL_add_r5 : List Cond := [Cond.selects RJx4a65c yJx4a65c_grow_92f84 yJx4a65c_grow_92f84, Cond.code yJx4a65c_grow_92f84 cJx4a65c_grow_92f84 4 (some (.array (.object "java/lang/Object"))), Cond.fieldLink RJx4a65c 39 "java/util/ArrayList" "DEFAULTCAPACITY_EMPTY_ELEMENTDATA" "[Ljava/lang/Object;", Cond.methodLink RJx4a65c 79 Lib.Math.max.name, Cond.static Lib.Math.max.name, Cond.initialized "java/lang/Math", Cond.code Lib.Math.max.name Lib.Math.max.code 2 (some .int), Cond.classLink RJx4a65c 7 "java/lang/Object", Cond.methodLink RJx4a65c 73 yJ8_newLength_cabcc, Cond.static yJ8_newLength_cabcc, Cond.initialized RJ8, Cond.code yJ8_newLength_cabcc cJ8_newLength_cabcc 4 (some .int), Cond.methodLink RJ8 194 Lib.Math.max.name, Cond.constant RJ8 200 (2147483639), Cond.methodLink RJ8 201 yJ8_hugeLength_7cf53, Cond.static yJ8_hugeLength_7cf53, Cond.code yJ8_hugeLength_7cf53 cJ8_hugeLength_7cf53 3 (some .int), Cond.methodLink RJx4a65c 66 yJ7_copyOf_1904c, Cond.static yJ7_copyOf_1904c, Cond.initialized RJ7, Cond.code yJ7_copyOf_1904c cJ7_copyOf_1904c 2 (some (.array (.object "java/lang/Object"))), Cond.methodLink RJ7 86 ⟨"java/lang/Object", "getClass", "()Ljava/lang/Class;"⟩, Cond.selects "[Ljava/lang/Object;" ⟨"java/lang/Object", "getClass", "()Ljava/lang/Class;"⟩ ⟨"java/lang/Object", "getClass", "()Ljava/lang/Class;"⟩, Cond.instanceMethod ⟨"java/lang/Object", "getClass", "()Ljava/lang/Class;"⟩]
def wsL_add_r6 : List Cond := [Cond.native ⟨"java/lang/Object", "getClass", "()Ljava/lang/Class;"⟩, Cond.methodLink RJ7 300 yJ7_copyOf_6403c, Cond.static yJ7_copyOf_6403c, Cond.code yJ7_copyOf_6403c cJ7_copyOf_6403c 4 (some (.array (.object "java/lang/Object"))), Cond.classLink RJ7 110 "[Ljava/lang/Object;", Cond.classLink RJ7 2 "java/lang/Object", Cond.methodLink RJ7 304 Lib.Math.min.name, Cond.static Lib.Math.min.name, Cond.code Lib.Math.min.name Lib.Math.min.code 2 (some .int), Cond.methodLink RJ7 150 arraycopyName, Cond.native arraycopyName, Cond.static arraycopyName, Cond.initialized "java/lang/System", Cond.methodLink RX6 202 yX2_putInOrder, Cond.instanceMethod yX2_putInOrder, Cond.selects RX2 yX2_putInOrder yX2_putInOrder, Cond.initialized RX2, Cond.code yX2_putInOrder cX2_putInOrder 3 none, Cond.fieldLink RX2 10 "Backdater$Policy" "inOrder" "Ljava/util/List;", Cond.classLink RX2 33 "Backdater$Change", Cond.fieldLink RX2 35 "Backdater$Change" "from" "I", Cond.methodLink RX2 23 ⟨"java/util/List", "size", "()I"⟩, Cond.methodLink RX2 29 ⟨"java/util/List", "get", "(I)Ljava/lang/Object;"⟩, Cond.methodLink RX2 38 ⟨"java/util/List", "add", "(ILjava/lang/Object;)V"⟩]
def wsL_add_r7 : List Cond := [Cond.selects RJx4a65c ⟨"java/util/List", "add", "(ILjava/lang/Object;)V"⟩ yJx4a65c_add_7a177, Cond.instanceMethod yJx4a65c_add_7a177, Cond.code yJx4a65c_add_7a177 cJx4a65c_add_7a177 5 none, Cond.methodLink RJx4a65c 112 arraycopyName, Cond.methodLink RJx4a65c 135 yJx4a65c_rangeCheckForAdd_d00df, Cond.instanceMethod yJx4a65c_rangeCheckForAdd_d00df, Cond.selects RJx4a65c yJx4a65c_rangeCheckForAdd_d00df yJx4a65c_rangeCheckForAdd_d00df, Cond.code yJx4a65c_rangeCheckForAdd_d00df cJx4a65c_rangeCheckForAdd_d00df 2 none]
def wsL_add : List Cond := .codeWith yL_add cL_add 7 (some .int) [(0, 14, 17, 21), (0, 14, 21, 13), (0, 14, 25, 15)] :: ((wsL_add_r1 ++ (wsL_add_r2 ++ (wsL_add_r3 ++ (wsL_add_r4 ++ (wsL_add_r5 ++ (wsL_add_r6 ++ wsL_add_r7)))))) ++ wsX60 ++ wsJx4a65c0 ++ wsX00 ++ wsX20 ++ (vx_atS RX6 192 "java/lang/IndexOutOfBoundsException" ["java/lang/RuntimeException", "java/lang/Exception"]).filter goodWord ++ (vx_atS RX6 184 "java/lang/IllegalArgumentException" ["java/lang/RuntimeException", "java/lang/Exception"]).filter goodWord ++ (vx_atS RX6 58 "java/lang/IllegalStateException" ["java/lang/RuntimeException", "java/lang/Exception"]).filter goodWord)
def wsL_cancel_r1 : List Cond := [Cond.classLink RL 21 "java/lang/IndexOutOfBoundsException", Cond.classLink RL 13 "java/lang/IllegalArgumentException", Cond.classLink RL 15 "java/lang/IllegalStateException", Cond.methodLink RL 33 yX6_cancel, Cond.instanceMethod yX6_cancel, Cond.selects RX6 yX6_cancel yX6_cancel, Cond.initialized RX6, Cond.code yX6_cancel cX6_cancel 4 (some .int), Cond.fieldLink RX6 100 "Backdater$Kind" "CANCEL" "LBackdater$Kind;", Cond.methodLink RX6 84 yX6_policyNumbered, Cond.instanceMethod yX6_policyNumbered, Cond.selects RX6 yX6_policyNumbered yX6_policyNumbered, Cond.code yX6_policyNumbered cX6_policyNumbered 2 (some (.object "Backdater$Policy")), Cond.classLink RX6 188 "java/lang/IndexOutOfBoundsException", Cond.initialized "java/lang/IndexOutOfBoundsException", Cond.fieldLink RX6 10 "Backdater" "policies" "Ljava/util/List;", Cond.classLink RX6 61 "Backdater$Policy", Cond.methodLink RX6 48 ⟨"java/util/List", "size", "()I"⟩, Cond.selects RJx4a65c ⟨"java/util/List", "size", "()I"⟩ yJx4a65c_size_8abf5, Cond.instanceMethod yJx4a65c_size_8abf5, Cond.initialized RJx4a65c, Cond.code yJx4a65c_size_8abf5 cJx4a65c_size_8abf5 1 (some .int), Cond.fieldLink RJx4a65c 48 "java/util/ArrayList" "size" "I", Cond.methodLink RX6 127 ⟨"java/util/List", "get", "(I)Ljava/lang/Object;"⟩]
def wsL_cancel_r2 : List Cond := [Cond.selects RJx4a65c ⟨"java/util/List", "get", "(I)Ljava/lang/Object;"⟩ yJx4a65c_get_915e3, Cond.instanceMethod yJx4a65c_get_915e3, Cond.code yJx4a65c_get_915e3 cJx4a65c_get_915e3 2 (some (.object "java/lang/Object")), Cond.methodLink RJx4a65c 118 yJ15_checkIndex_7cf53, Cond.static yJ15_checkIndex_7cf53, Cond.initialized RJ15, Cond.code yJ15_checkIndex_7cf53 cJ15_checkIndex_7cf53 2 (some .int), Cond.methodLink RJ15 105 yJ3_checkIndex_8e157, Cond.static yJ3_checkIndex_8e157, Cond.initialized RJ3, Cond.code yJ3_checkIndex_8e157 cJ3_checkIndex_8e157 3 (some .int), Cond.methodLink RJx4a65c 123 yJx4a65c_elementData_915e3, Cond.instanceMethod yJx4a65c_elementData_915e3, Cond.selects RJx4a65c yJx4a65c_elementData_915e3 yJx4a65c_elementData_915e3, Cond.code yJx4a65c_elementData_915e3 cJx4a65c_elementData_915e3 2 (some (.object "java/lang/Object")), Cond.fieldLink RJx4a65c 9 "java/util/ArrayList" "elementData" "[Ljava/lang/Object;", Cond.methodLink RX6 73 yX6_demandDay, Cond.static yX6_demandDay, Cond.code yX6_demandDay cX6_demandDay 1 none, Cond.methodLink RX6 44 yX6_demandWithin, Cond.static yX6_demandWithin, Cond.code yX6_demandWithin cX6_demandWithin 3 none, Cond.classLink RX6 180 "java/lang/IllegalArgumentException", Cond.initialized "java/lang/IllegalArgumentException"]
def wsL_cancel_r3 : List Cond := [Cond.methodLink RX6 94 yX6_tell, Cond.instanceMethod yX6_tell, Cond.selects RX6 yX6_tell yX6_tell, Cond.code yX6_tell cX6_tell 7 (some .int), Cond.classLink RX6 54 "java/lang/IllegalStateException", Cond.initialized "java/lang/IllegalStateException", Cond.fieldLink RX6 16 "Backdater" "told" "Ljava/util/List;", Cond.classLink RX6 111 RX0, Cond.instantiable RX0 8, Cond.initialized RX0, Cond.fieldLink RX6 40 "Backdater" "currentDay" "I", Cond.fieldLink RX6 131 "Backdater$Change" "number" "I", Cond.methodLink RX6 199 yX0_init, Cond.instanceMethod yX0_init, Cond.code yX0_init cX0_init 8 none, Cond.methodLink RX0 3 objectInit, Cond.instanceMethod objectInit, Cond.code objectInit ⟨#[0xb1]⟩ 1 none, Cond.fieldLink RX0 9 "Backdater$Change" "takenBackOn" "I", Cond.fieldLink RX0 15 "Backdater$Change" "number" "I", Cond.fieldLink RX0 18 "Backdater$Change" "policy" "LBackdater$Policy;", Cond.fieldLink RX0 22 "Backdater$Change" "kind" "LBackdater$Kind;", Cond.fieldLink RX0 26 "Backdater$Change" "field" "I", Cond.fieldLink RX0 29 "Backdater$Change" "from" "I"]
def wsL_cancel_r4 : List Cond := [Cond.fieldLink RX0 32 "Backdater$Change" "amount" "I", Cond.fieldLink RX0 35 "Backdater$Change" "toldOn" "I", Cond.methodLink RX6 66 ⟨"java/util/List", "add", "(Ljava/lang/Object;)Z"⟩, Cond.selects RJx4a65c ⟨"java/util/List", "add", "(Ljava/lang/Object;)Z"⟩ yJx4a65c_add_9ea2d, Cond.instanceMethod yJx4a65c_add_9ea2d, Cond.code yJx4a65c_add_9ea2d cJx4a65c_add_9ea2d 2 (some .boolean), Cond.fieldLink RJx4a65c 63 "java/util/ArrayList" "modCount" "I", Cond.sameField "java/util/ArrayList" "java/util/AbstractList" "modCount" "I", Cond.methodLink RJx4a65c 131 yJx4a65c_add_72be8, Cond.instanceMethod yJx4a65c_add_72be8, Cond.selects RJx4a65c yJx4a65c_add_72be8 yJx4a65c_add_72be8, Cond.code yJx4a65c_add_72be8 cJx4a65c_add_72be8 4 none, Cond.methodLink RJx4a65c 129 yJx4a65c_grow_d5877, Cond.instanceMethod yJx4a65c_grow_d5877, Cond.selects RJx4a65c yJx4a65c_grow_d5877 yJx4a65c_grow_d5877, Cond.code yJx4a65c_grow_d5877 cJx4a65c_grow_d5877 1 (some (.array (.object "java/lang/Object"))), Cond.methodLink RJx4a65c 69 yJx4a65c_grow_92f84, Cond.instanceMethod yJx4a65c_grow_92f84, Cond.selects RJx4a65c yJx4a65c_grow_92f84 yJx4a65c_grow_92f84, Cond.code yJx4a65c_grow_92f84 cJx4a65c_grow_92f84 4 (some (.array (.object "java/lang/Object"))), Cond.fieldLink RJx4a65c 39 "java/util/ArrayList" "DEFAULTCAPACITY_EMPTY_ELEMENTDATA" "[Ljava/lang/Object;", Cond.methodLink RJx4a65c 79 Lib.Math.max.name, Cond.static Lib.Math.max.name, Cond.initialized "java/lang/Math"]
def wsL_cancel_r5 : List Cond := [Cond.code Lib.Math.max.name Lib.Math.max.code 2 (some .int), Cond.classLink RJx4a65c 7 "java/lang/Object", Cond.methodLink RJx4a65c 73 yJ8_newLength_cabcc, Cond.static yJ8_newLength_cabcc, Cond.initialized RJ8, Cond.code yJ8_newLength_cabcc cJ8_newLength_cabcc 4 (some .int), Cond.methodLink RJ8 194 Lib.Math.max.name, Cond.constant RJ8 200 (2147483639), Cond.methodLink RJ8 201 yJ8_hugeLength_7cf53, Cond.static yJ8_hugeLength_7cf53, Cond.code yJ8_hugeLength_7cf53 cJ8_hugeLength_7cf53 3 (some .int), Cond.methodLink RJx4a65c 66 yJ7_copyOf_1904c, Cond.static yJ7_copyOf_1904c, Cond.initialized RJ7, Cond.code yJ7_copyOf_1904c cJ7_copyOf_1904c 2 (some (.array (.object "java/lang/Object"))), Cond.methodLink RJ7 86 ⟨"java/lang/Object", "getClass", "()Ljava/lang/Class;"⟩, Cond.selects "[Ljava/lang/Object;" ⟨"java/lang/Object", "getClass", "()Ljava/lang/Class;"⟩ ⟨"java/lang/Object", "getClass", "()Ljava/lang/Class;"⟩, Cond.instanceMethod ⟨"java/lang/Object", "getClass", "()Ljava/lang/Class;"⟩, Cond.native ⟨"java/lang/Object", "getClass", "()Ljava/lang/Class;"⟩, Cond.methodLink RJ7 300 yJ7_copyOf_6403c, Cond.static yJ7_copyOf_6403c, Cond.code yJ7_copyOf_6403c cJ7_copyOf_6403c 4 (some (.array (.object "java/lang/Object"))), Cond.classLink RJ7 110 "[Ljava/lang/Object;", Cond.classLink RJ7 2 "java/lang/Object"]
def wsL_cancel_r6 : List Cond := [Cond.methodLink RJ7 304 Lib.Math.min.name, Cond.static Lib.Math.min.name, Cond.code Lib.Math.min.name Lib.Math.min.code 2 (some .int), Cond.methodLink RJ7 150 arraycopyName, Cond.native arraycopyName, Cond.static arraycopyName, Cond.initialized "java/lang/System", Cond.methodLink RX6 202 yX2_putInOrder, Cond.instanceMethod yX2_putInOrder, Cond.selects RX2 yX2_putInOrder yX2_putInOrder, Cond.initialized RX2, Cond.code yX2_putInOrder cX2_putInOrder 3 none, Cond.fieldLink RX2 10 "Backdater$Policy" "inOrder" "Ljava/util/List;", Cond.classLink RX2 33 "Backdater$Change", Cond.fieldLink RX2 35 "Backdater$Change" "from" "I", Cond.methodLink RX2 23 ⟨"java/util/List", "size", "()I"⟩, Cond.methodLink RX2 29 ⟨"java/util/List", "get", "(I)Ljava/lang/Object;"⟩, Cond.methodLink RX2 38 ⟨"java/util/List", "add", "(ILjava/lang/Object;)V"⟩, Cond.selects RJx4a65c ⟨"java/util/List", "add", "(ILjava/lang/Object;)V"⟩ yJx4a65c_add_7a177, Cond.instanceMethod yJx4a65c_add_7a177, Cond.code yJx4a65c_add_7a177 cJx4a65c_add_7a177 5 none, Cond.methodLink RJx4a65c 112 arraycopyName, Cond.methodLink RJx4a65c 135 yJx4a65c_rangeCheckForAdd_d00df, Cond.instanceMethod yJx4a65c_rangeCheckForAdd_d00df]
def wsL_cancel_r7 : List Cond := [Cond.selects RJx4a65c yJx4a65c_rangeCheckForAdd_d00df yJx4a65c_rangeCheckForAdd_d00df, Cond.code yJx4a65c_rangeCheckForAdd_d00df cJx4a65c_rangeCheckForAdd_d00df 2 none]
def wsL_cancel : List Cond := .codeWith yL_cancel cL_cancel 5 (some .int) [(0, 10, 13, 21), (0, 10, 17, 13), (0, 10, 21, 15)] :: ((wsL_cancel_r1 ++ (wsL_cancel_r2 ++ (wsL_cancel_r3 ++ (wsL_cancel_r4 ++ (wsL_cancel_r5 ++ (wsL_cancel_r6 ++ wsL_cancel_r7)))))) ++ wsX60 ++ wsJx4a65c0 ++ wsX00 ++ wsX20 ++ (vx_atS RX6 192 "java/lang/IndexOutOfBoundsException" ["java/lang/RuntimeException", "java/lang/Exception"]).filter goodWord ++ (vx_atS RX6 184 "java/lang/IllegalArgumentException" ["java/lang/RuntimeException", "java/lang/Exception"]).filter goodWord ++ (vx_atS RX6 58 "java/lang/IllegalStateException" ["java/lang/RuntimeException", "java/lang/Exception"]).filter goodWord)
def wsL_reinstate_r1 : List Cond := [Cond.classLink RL 21 "java/lang/IndexOutOfBoundsException", Cond.classLink RL 13 "java/lang/IllegalArgumentException", Cond.classLink RL 15 "java/lang/IllegalStateException", Cond.methodLink RL 37 yX6_reinstate, Cond.instanceMethod yX6_reinstate, Cond.selects RX6 yX6_reinstate yX6_reinstate, Cond.initialized RX6, Cond.code yX6_reinstate cX6_reinstate 4 (some .int), Cond.fieldLink RX6 103 "Backdater$Kind" "REINSTATE" "LBackdater$Kind;", Cond.methodLink RX6 84 yX6_policyNumbered, Cond.instanceMethod yX6_policyNumbered, Cond.selects RX6 yX6_policyNumbered yX6_policyNumbered, Cond.code yX6_policyNumbered cX6_policyNumbered 2 (some (.object "Backdater$Policy")), Cond.classLink RX6 188 "java/lang/IndexOutOfBoundsException", Cond.initialized "java/lang/IndexOutOfBoundsException", Cond.fieldLink RX6 10 "Backdater" "policies" "Ljava/util/List;", Cond.classLink RX6 61 "Backdater$Policy", Cond.methodLink RX6 48 ⟨"java/util/List", "size", "()I"⟩, Cond.selects RJx4a65c ⟨"java/util/List", "size", "()I"⟩ yJx4a65c_size_8abf5, Cond.instanceMethod yJx4a65c_size_8abf5, Cond.initialized RJx4a65c, Cond.code yJx4a65c_size_8abf5 cJx4a65c_size_8abf5 1 (some .int), Cond.fieldLink RJx4a65c 48 "java/util/ArrayList" "size" "I", Cond.methodLink RX6 127 ⟨"java/util/List", "get", "(I)Ljava/lang/Object;"⟩]
def wsL_reinstate_r2 : List Cond := [Cond.selects RJx4a65c ⟨"java/util/List", "get", "(I)Ljava/lang/Object;"⟩ yJx4a65c_get_915e3, Cond.instanceMethod yJx4a65c_get_915e3, Cond.code yJx4a65c_get_915e3 cJx4a65c_get_915e3 2 (some (.object "java/lang/Object")), Cond.methodLink RJx4a65c 118 yJ15_checkIndex_7cf53, Cond.static yJ15_checkIndex_7cf53, Cond.initialized RJ15, Cond.code yJ15_checkIndex_7cf53 cJ15_checkIndex_7cf53 2 (some .int), Cond.methodLink RJ15 105 yJ3_checkIndex_8e157, Cond.static yJ3_checkIndex_8e157, Cond.initialized RJ3, Cond.code yJ3_checkIndex_8e157 cJ3_checkIndex_8e157 3 (some .int), Cond.methodLink RJx4a65c 123 yJx4a65c_elementData_915e3, Cond.instanceMethod yJx4a65c_elementData_915e3, Cond.selects RJx4a65c yJx4a65c_elementData_915e3 yJx4a65c_elementData_915e3, Cond.code yJx4a65c_elementData_915e3 cJx4a65c_elementData_915e3 2 (some (.object "java/lang/Object")), Cond.fieldLink RJx4a65c 9 "java/util/ArrayList" "elementData" "[Ljava/lang/Object;", Cond.methodLink RX6 73 yX6_demandDay, Cond.static yX6_demandDay, Cond.code yX6_demandDay cX6_demandDay 1 none, Cond.methodLink RX6 44 yX6_demandWithin, Cond.static yX6_demandWithin, Cond.code yX6_demandWithin cX6_demandWithin 3 none, Cond.classLink RX6 180 "java/lang/IllegalArgumentException", Cond.initialized "java/lang/IllegalArgumentException"]
def wsL_reinstate_r3 : List Cond := [Cond.methodLink RX6 94 yX6_tell, Cond.instanceMethod yX6_tell, Cond.selects RX6 yX6_tell yX6_tell, Cond.code yX6_tell cX6_tell 7 (some .int), Cond.classLink RX6 54 "java/lang/IllegalStateException", Cond.initialized "java/lang/IllegalStateException", Cond.fieldLink RX6 16 "Backdater" "told" "Ljava/util/List;", Cond.classLink RX6 111 RX0, Cond.instantiable RX0 8, Cond.initialized RX0, Cond.fieldLink RX6 40 "Backdater" "currentDay" "I", Cond.fieldLink RX6 131 "Backdater$Change" "number" "I", Cond.methodLink RX6 199 yX0_init, Cond.instanceMethod yX0_init, Cond.code yX0_init cX0_init 8 none, Cond.methodLink RX0 3 objectInit, Cond.instanceMethod objectInit, Cond.code objectInit ⟨#[0xb1]⟩ 1 none, Cond.fieldLink RX0 9 "Backdater$Change" "takenBackOn" "I", Cond.fieldLink RX0 15 "Backdater$Change" "number" "I", Cond.fieldLink RX0 18 "Backdater$Change" "policy" "LBackdater$Policy;", Cond.fieldLink RX0 22 "Backdater$Change" "kind" "LBackdater$Kind;", Cond.fieldLink RX0 26 "Backdater$Change" "field" "I", Cond.fieldLink RX0 29 "Backdater$Change" "from" "I"]
def wsL_reinstate_r4 : List Cond := [Cond.fieldLink RX0 32 "Backdater$Change" "amount" "I", Cond.fieldLink RX0 35 "Backdater$Change" "toldOn" "I", Cond.methodLink RX6 66 ⟨"java/util/List", "add", "(Ljava/lang/Object;)Z"⟩, Cond.selects RJx4a65c ⟨"java/util/List", "add", "(Ljava/lang/Object;)Z"⟩ yJx4a65c_add_9ea2d, Cond.instanceMethod yJx4a65c_add_9ea2d, Cond.code yJx4a65c_add_9ea2d cJx4a65c_add_9ea2d 2 (some .boolean), Cond.fieldLink RJx4a65c 63 "java/util/ArrayList" "modCount" "I", Cond.sameField "java/util/ArrayList" "java/util/AbstractList" "modCount" "I", Cond.methodLink RJx4a65c 131 yJx4a65c_add_72be8, Cond.instanceMethod yJx4a65c_add_72be8, Cond.selects RJx4a65c yJx4a65c_add_72be8 yJx4a65c_add_72be8, Cond.code yJx4a65c_add_72be8 cJx4a65c_add_72be8 4 none, Cond.methodLink RJx4a65c 129 yJx4a65c_grow_d5877, Cond.instanceMethod yJx4a65c_grow_d5877, Cond.selects RJx4a65c yJx4a65c_grow_d5877 yJx4a65c_grow_d5877, Cond.code yJx4a65c_grow_d5877 cJx4a65c_grow_d5877 1 (some (.array (.object "java/lang/Object"))), Cond.methodLink RJx4a65c 69 yJx4a65c_grow_92f84, Cond.instanceMethod yJx4a65c_grow_92f84, Cond.selects RJx4a65c yJx4a65c_grow_92f84 yJx4a65c_grow_92f84, Cond.code yJx4a65c_grow_92f84 cJx4a65c_grow_92f84 4 (some (.array (.object "java/lang/Object"))), Cond.fieldLink RJx4a65c 39 "java/util/ArrayList" "DEFAULTCAPACITY_EMPTY_ELEMENTDATA" "[Ljava/lang/Object;", Cond.methodLink RJx4a65c 79 Lib.Math.max.name, Cond.static Lib.Math.max.name, Cond.initialized "java/lang/Math"]
def wsL_reinstate_r5 : List Cond := [Cond.code Lib.Math.max.name Lib.Math.max.code 2 (some .int), Cond.classLink RJx4a65c 7 "java/lang/Object", Cond.methodLink RJx4a65c 73 yJ8_newLength_cabcc, Cond.static yJ8_newLength_cabcc, Cond.initialized RJ8, Cond.code yJ8_newLength_cabcc cJ8_newLength_cabcc 4 (some .int), Cond.methodLink RJ8 194 Lib.Math.max.name, Cond.constant RJ8 200 (2147483639), Cond.methodLink RJ8 201 yJ8_hugeLength_7cf53, Cond.static yJ8_hugeLength_7cf53, Cond.code yJ8_hugeLength_7cf53 cJ8_hugeLength_7cf53 3 (some .int), Cond.methodLink RJx4a65c 66 yJ7_copyOf_1904c, Cond.static yJ7_copyOf_1904c, Cond.initialized RJ7, Cond.code yJ7_copyOf_1904c cJ7_copyOf_1904c 2 (some (.array (.object "java/lang/Object"))), Cond.methodLink RJ7 86 ⟨"java/lang/Object", "getClass", "()Ljava/lang/Class;"⟩, Cond.selects "[Ljava/lang/Object;" ⟨"java/lang/Object", "getClass", "()Ljava/lang/Class;"⟩ ⟨"java/lang/Object", "getClass", "()Ljava/lang/Class;"⟩, Cond.instanceMethod ⟨"java/lang/Object", "getClass", "()Ljava/lang/Class;"⟩, Cond.native ⟨"java/lang/Object", "getClass", "()Ljava/lang/Class;"⟩, Cond.methodLink RJ7 300 yJ7_copyOf_6403c, Cond.static yJ7_copyOf_6403c, Cond.code yJ7_copyOf_6403c cJ7_copyOf_6403c 4 (some (.array (.object "java/lang/Object"))), Cond.classLink RJ7 110 "[Ljava/lang/Object;", Cond.classLink RJ7 2 "java/lang/Object"]
def wsL_reinstate_r6 : List Cond := [Cond.methodLink RJ7 304 Lib.Math.min.name, Cond.static Lib.Math.min.name, Cond.code Lib.Math.min.name Lib.Math.min.code 2 (some .int), Cond.methodLink RJ7 150 arraycopyName, Cond.native arraycopyName, Cond.static arraycopyName, Cond.initialized "java/lang/System", Cond.methodLink RX6 202 yX2_putInOrder, Cond.instanceMethod yX2_putInOrder, Cond.selects RX2 yX2_putInOrder yX2_putInOrder, Cond.initialized RX2, Cond.code yX2_putInOrder cX2_putInOrder 3 none, Cond.fieldLink RX2 10 "Backdater$Policy" "inOrder" "Ljava/util/List;", Cond.classLink RX2 33 "Backdater$Change", Cond.fieldLink RX2 35 "Backdater$Change" "from" "I", Cond.methodLink RX2 23 ⟨"java/util/List", "size", "()I"⟩, Cond.methodLink RX2 29 ⟨"java/util/List", "get", "(I)Ljava/lang/Object;"⟩, Cond.methodLink RX2 38 ⟨"java/util/List", "add", "(ILjava/lang/Object;)V"⟩, Cond.selects RJx4a65c ⟨"java/util/List", "add", "(ILjava/lang/Object;)V"⟩ yJx4a65c_add_7a177, Cond.instanceMethod yJx4a65c_add_7a177, Cond.code yJx4a65c_add_7a177 cJx4a65c_add_7a177 5 none, Cond.methodLink RJx4a65c 112 arraycopyName, Cond.methodLink RJx4a65c 135 yJx4a65c_rangeCheckForAdd_d00df, Cond.instanceMethod yJx4a65c_rangeCheckForAdd_d00df]
def wsL_reinstate_r7 : List Cond := [Cond.selects RJx4a65c yJx4a65c_rangeCheckForAdd_d00df yJx4a65c_rangeCheckForAdd_d00df, Cond.code yJx4a65c_rangeCheckForAdd_d00df cJx4a65c_rangeCheckForAdd_d00df 2 none]
def wsL_reinstate : List Cond := .codeWith yL_reinstate cL_reinstate 5 (some .int) [(0, 10, 13, 21), (0, 10, 17, 13), (0, 10, 21, 15)] :: ((wsL_reinstate_r1 ++ (wsL_reinstate_r2 ++ (wsL_reinstate_r3 ++ (wsL_reinstate_r4 ++ (wsL_reinstate_r5 ++ (wsL_reinstate_r6 ++ wsL_reinstate_r7)))))) ++ wsX60 ++ wsJx4a65c0 ++ wsX00 ++ wsX20 ++ (vx_atS RX6 192 "java/lang/IndexOutOfBoundsException" ["java/lang/RuntimeException", "java/lang/Exception"]).filter goodWord ++ (vx_atS RX6 184 "java/lang/IllegalArgumentException" ["java/lang/RuntimeException", "java/lang/Exception"]).filter goodWord ++ (vx_atS RX6 58 "java/lang/IllegalStateException" ["java/lang/RuntimeException", "java/lang/Exception"]).filter goodWord)
def wsL_takeBack_r1 : List Cond := [Cond.classLink RL 21 "java/lang/IndexOutOfBoundsException", Cond.classLink RL 15 "java/lang/IllegalStateException", Cond.methodLink RL 40 yX6_takeBack, Cond.instanceMethod yX6_takeBack, Cond.selects RX6 yX6_takeBack yX6_takeBack, Cond.initialized RX6, Cond.code yX6_takeBack cX6_takeBack 3 (some .int), Cond.classLink RX6 54 "java/lang/IllegalStateException", Cond.initialized "java/lang/IllegalStateException", Cond.fieldLink RX6 110 "Backdater$Change" "takenBackOn" "I", Cond.fieldLink RX6 40 "Backdater" "currentDay" "I", Cond.fieldLink RX6 117 "Backdater$Change" "toldOn" "I", Cond.methodLink RX6 106 yX6_changeNumbered, Cond.instanceMethod yX6_changeNumbered, Cond.selects RX6 yX6_changeNumbered yX6_changeNumbered, Cond.code yX6_changeNumbered cX6_changeNumbered 2 (some (.object "Backdater$Change")), Cond.classLink RX6 188 "java/lang/IndexOutOfBoundsException", Cond.initialized "java/lang/IndexOutOfBoundsException", Cond.fieldLink RX6 16 "Backdater" "told" "Ljava/util/List;", Cond.classLink RX6 111 "Backdater$Change", Cond.methodLink RX6 48 ⟨"java/util/List", "size", "()I"⟩, Cond.selects RJx4a65c ⟨"java/util/List", "size", "()I"⟩ yJx4a65c_size_8abf5, Cond.instanceMethod yJx4a65c_size_8abf5, Cond.initialized RJx4a65c]
def wsL_takeBack_r2 : List Cond := [Cond.code yJx4a65c_size_8abf5 cJx4a65c_size_8abf5 1 (some .int), Cond.fieldLink RJx4a65c 48 "java/util/ArrayList" "size" "I", Cond.methodLink RX6 127 ⟨"java/util/List", "get", "(I)Ljava/lang/Object;"⟩, Cond.selects RJx4a65c ⟨"java/util/List", "get", "(I)Ljava/lang/Object;"⟩ yJx4a65c_get_915e3, Cond.instanceMethod yJx4a65c_get_915e3, Cond.code yJx4a65c_get_915e3 cJx4a65c_get_915e3 2 (some (.object "java/lang/Object")), Cond.methodLink RJx4a65c 118 yJ15_checkIndex_7cf53, Cond.static yJ15_checkIndex_7cf53, Cond.initialized RJ15, Cond.code yJ15_checkIndex_7cf53 cJ15_checkIndex_7cf53 2 (some .int), Cond.methodLink RJ15 105 yJ3_checkIndex_8e157, Cond.static yJ3_checkIndex_8e157, Cond.initialized RJ3, Cond.code yJ3_checkIndex_8e157 cJ3_checkIndex_8e157 3 (some .int), Cond.methodLink RJx4a65c 123 yJx4a65c_elementData_915e3, Cond.instanceMethod yJx4a65c_elementData_915e3, Cond.selects RJx4a65c yJx4a65c_elementData_915e3 yJx4a65c_elementData_915e3, Cond.code yJx4a65c_elementData_915e3 cJx4a65c_elementData_915e3 2 (some (.object "java/lang/Object")), Cond.fieldLink RJx4a65c 9 "java/util/ArrayList" "elementData" "[Ljava/lang/Object;"]
def wsL_takeBack : List Cond := .codeWith yL_takeBack cL_takeBack 4 (some .int) [(0, 9, 12, 21), (0, 9, 15, 15)] :: ((wsL_takeBack_r1 ++ wsL_takeBack_r2) ++ wsX00 ++ wsX60 ++ wsJx4a65c0 ++ (vx_atS RX6 58 "java/lang/IllegalStateException" ["java/lang/RuntimeException", "java/lang/Exception"]).filter goodWord ++ (vx_atS RX6 192 "java/lang/IndexOutOfBoundsException" ["java/lang/RuntimeException", "java/lang/Exception"]).filter goodWord)
def wsL_laidAnew_r1 : List Cond := [Cond.classLink RL 21 "java/lang/IndexOutOfBoundsException", Cond.methodLink RL 43 yX6_laidAnew, Cond.instanceMethod yX6_laidAnew, Cond.selects RX6 yX6_laidAnew yX6_laidAnew, Cond.initialized RX6, Cond.code yX6_laidAnew cX6_laidAnew 7 (some .int), Cond.fieldLink RX6 120 "Backdater$Change" "policy" "LBackdater$Policy;", Cond.fieldLink RX6 124 "Backdater$Policy" "inOrder" "Ljava/util/List;", Cond.classLink RX6 111 "Backdater$Change", Cond.fieldLink RX6 131 "Backdater$Change" "number" "I", Cond.fieldLink RX6 134 "Backdater$Change" "from" "I", Cond.fieldLink RX6 40 "Backdater" "currentDay" "I", Cond.methodLink RX6 106 yX6_changeNumbered, Cond.instanceMethod yX6_changeNumbered, Cond.selects RX6 yX6_changeNumbered yX6_changeNumbered, Cond.code yX6_changeNumbered cX6_changeNumbered 2 (some (.object "Backdater$Change")), Cond.classLink RX6 188 "java/lang/IndexOutOfBoundsException", Cond.initialized "java/lang/IndexOutOfBoundsException", Cond.fieldLink RX6 16 "Backdater" "told" "Ljava/util/List;", Cond.methodLink RX6 48 ⟨"java/util/List", "size", "()I"⟩, Cond.selects RJx4a65c ⟨"java/util/List", "size", "()I"⟩ yJx4a65c_size_8abf5, Cond.instanceMethod yJx4a65c_size_8abf5, Cond.initialized RJx4a65c, Cond.code yJx4a65c_size_8abf5 cJx4a65c_size_8abf5 1 (some .int)]
def wsL_laidAnew_r2 : List Cond := [Cond.fieldLink RJx4a65c 48 "java/util/ArrayList" "size" "I", Cond.methodLink RX6 127 ⟨"java/util/List", "get", "(I)Ljava/lang/Object;"⟩, Cond.selects RJx4a65c ⟨"java/util/List", "get", "(I)Ljava/lang/Object;"⟩ yJx4a65c_get_915e3, Cond.instanceMethod yJx4a65c_get_915e3, Cond.code yJx4a65c_get_915e3 cJx4a65c_get_915e3 2 (some (.object "java/lang/Object")), Cond.methodLink RJx4a65c 118 yJ15_checkIndex_7cf53, Cond.static yJ15_checkIndex_7cf53, Cond.initialized RJ15, Cond.code yJ15_checkIndex_7cf53 cJ15_checkIndex_7cf53 2 (some .int), Cond.methodLink RJ15 105 yJ3_checkIndex_8e157, Cond.static yJ3_checkIndex_8e157, Cond.initialized RJ3, Cond.code yJ3_checkIndex_8e157 cJ3_checkIndex_8e157 3 (some .int), Cond.methodLink RJx4a65c 123 yJx4a65c_elementData_915e3, Cond.instanceMethod yJx4a65c_elementData_915e3, Cond.selects RJx4a65c yJx4a65c_elementData_915e3 yJx4a65c_elementData_915e3, Cond.code yJx4a65c_elementData_915e3 cJx4a65c_elementData_915e3 2 (some (.object "java/lang/Object")), Cond.fieldLink RJx4a65c 9 "java/util/ArrayList" "elementData" "[Ljava/lang/Object;", Cond.methodLink RX6 137 yX0_isKnownOn, Cond.instanceMethod yX0_isKnownOn, Cond.selects RX0 yX0_isKnownOn yX0_isKnownOn, Cond.initialized RX0, Cond.code yX0_isKnownOn cX0_isKnownOn 2 (some .boolean), Cond.fieldLink RX0 35 "Backdater$Change" "toldOn" "I"]
def wsL_laidAnew_r3 : List Cond := [Cond.fieldLink RX0 9 "Backdater$Change" "takenBackOn" "I"]
def wsL_laidAnew : List Cond := .codeWith yL_laidAnew cL_laidAnew 4 (some .int) [(0, 9, 12, 21)] :: ((wsL_laidAnew_r1 ++ (wsL_laidAnew_r2 ++ wsL_laidAnew_r3)) ++ wsX00 ++ wsX20 ++ wsX60 ++ wsJx4a65c0 ++ (vx_atS RX6 192 "java/lang/IndexOutOfBoundsException" ["java/lang/RuntimeException", "java/lang/Exception"]).filter goodWord)
def wsL_value_r1 : List Cond := [Cond.classLink RL 21 "java/lang/IndexOutOfBoundsException", Cond.classLink RL 13 "java/lang/IllegalArgumentException", Cond.methodLink RL 46 yX6_value, Cond.instanceMethod yX6_value, Cond.selects RX6 yX6_value yX6_value, Cond.initialized RX6, Cond.code yX6_value cX6_value 6 (some .int), Cond.fieldLink RX6 29 "Backdater" "version" "LBackdater$Version;", Cond.methodLink RX6 84 yX6_policyNumbered, Cond.instanceMethod yX6_policyNumbered, Cond.selects RX6 yX6_policyNumbered yX6_policyNumbered, Cond.code yX6_policyNumbered cX6_policyNumbered 2 (some (.object "Backdater$Policy")), Cond.classLink RX6 188 "java/lang/IndexOutOfBoundsException", Cond.initialized "java/lang/IndexOutOfBoundsException", Cond.fieldLink RX6 10 "Backdater" "policies" "Ljava/util/List;", Cond.classLink RX6 61 "Backdater$Policy", Cond.methodLink RX6 48 ⟨"java/util/List", "size", "()I"⟩, Cond.selects RJx4a65c ⟨"java/util/List", "size", "()I"⟩ yJx4a65c_size_8abf5, Cond.instanceMethod yJx4a65c_size_8abf5, Cond.initialized RJx4a65c, Cond.code yJx4a65c_size_8abf5 cJx4a65c_size_8abf5 1 (some .int), Cond.fieldLink RJx4a65c 48 "java/util/ArrayList" "size" "I", Cond.methodLink RX6 127 ⟨"java/util/List", "get", "(I)Ljava/lang/Object;"⟩, Cond.selects RJx4a65c ⟨"java/util/List", "get", "(I)Ljava/lang/Object;"⟩ yJx4a65c_get_915e3]
def wsL_value_r2 : List Cond := [Cond.instanceMethod yJx4a65c_get_915e3, Cond.code yJx4a65c_get_915e3 cJx4a65c_get_915e3 2 (some (.object "java/lang/Object")), Cond.methodLink RJx4a65c 118 yJ15_checkIndex_7cf53, Cond.static yJ15_checkIndex_7cf53, Cond.initialized RJ15, Cond.code yJ15_checkIndex_7cf53 cJ15_checkIndex_7cf53 2 (some .int), Cond.methodLink RJ15 105 yJ3_checkIndex_8e157, Cond.static yJ3_checkIndex_8e157, Cond.initialized RJ3, Cond.code yJ3_checkIndex_8e157 cJ3_checkIndex_8e157 3 (some .int), Cond.methodLink RJx4a65c 123 yJx4a65c_elementData_915e3, Cond.instanceMethod yJx4a65c_elementData_915e3, Cond.selects RJx4a65c yJx4a65c_elementData_915e3 yJx4a65c_elementData_915e3, Cond.code yJx4a65c_elementData_915e3 cJx4a65c_elementData_915e3 2 (some (.object "java/lang/Object")), Cond.fieldLink RJx4a65c 9 "java/util/ArrayList" "elementData" "[Ljava/lang/Object;", Cond.methodLink RX6 70 yX6_demandField, Cond.static yX6_demandField, Cond.code yX6_demandField cX6_demandField 1 none, Cond.methodLink RX6 185 yX6_isField, Cond.static yX6_isField, Cond.code yX6_isField cX6_isField 1 (some .boolean), Cond.methodLink RX6 73 yX6_demandDay, Cond.static yX6_demandDay, Cond.code yX6_demandDay cX6_demandDay 1 none]
def wsL_value_r3 : List Cond := [Cond.methodLink RX6 44 yX6_demandWithin, Cond.static yX6_demandWithin, Cond.code yX6_demandWithin cX6_demandWithin 3 none, Cond.classLink RX6 180 "java/lang/IllegalArgumentException", Cond.initialized "java/lang/IllegalArgumentException", Cond.methodLink RX6 141 yX6_demandKnown, Cond.instanceMethod yX6_demandKnown, Cond.selects RX6 yX6_demandKnown yX6_demandKnown, Cond.code yX6_demandKnown cX6_demandKnown 2 none, Cond.fieldLink RX6 40 "Backdater" "currentDay" "I", Cond.methodLink RX6 144 yX6_layVersion, Cond.instanceMethod yX6_layVersion, Cond.selects RX6 yX6_layVersion yX6_layVersion, Cond.code yX6_layVersion cX6_layVersion 4 none, Cond.methodLink RX6 206 yX4_begin, Cond.instanceMethod yX4_begin, Cond.selects RX4 yX4_begin yX4_begin, Cond.initialized RX4, Cond.code yX4_begin cX4_begin 1 none, Cond.fieldLink RX4 9 "Backdater$Version" "values" "[I", Cond.fieldLink RX4 15 "Backdater$Version" "covered" "Z", Cond.methodLink RX4 19 yJ7_fill_53178, Cond.static yJ7_fill_53178, Cond.initialized RJ7]
def wsL_value_r4 : List Cond := [Cond.code yJ7_fill_53178 cJ7_fill_53178 4 none, Cond.methodLink RX6 209 yX6_layInFrom, Cond.instanceMethod yX6_layInFrom, Cond.selects RX6 yX6_layInFrom yX6_layInFrom, Cond.code yX6_layInFrom cX6_layInFrom 8 (some .int), Cond.fieldLink RX6 124 "Backdater$Policy" "inOrder" "Ljava/util/List;", Cond.methodLink RX6 213 Lib.Math.max.name, Cond.static Lib.Math.max.name, Cond.initialized "java/lang/Math", Cond.code Lib.Math.max.name Lib.Math.max.code 2 (some .int), Cond.classLink RX6 111 "Backdater$Change", Cond.fieldLink RX6 134 "Backdater$Change" "from" "I", Cond.methodLink RX6 137 yX0_isKnownOn, Cond.instanceMethod yX0_isKnownOn, Cond.selects RX0 yX0_isKnownOn yX0_isKnownOn, Cond.initialized RX0, Cond.code yX0_isKnownOn cX0_isKnownOn 2 (some .boolean), Cond.fieldLink RX0 35 "Backdater$Change" "toldOn" "I", Cond.fieldLink RX0 9 "Backdater$Change" "takenBackOn" "I", Cond.methodLink RX6 219 yX4_layIn, Cond.instanceMethod yX4_layIn, Cond.selects RX4 yX4_layIn yX4_layIn, Cond.code yX4_layIn cX4_layIn 3 none, Cond.fieldLink RX4 25 "Backdater$Change" "kind" "LBackdater$Kind;"]
def wsL_value_r5 : List Cond := [Cond.fieldLink RX4 31 "Backdater$Kind" "SET" "LBackdater$Kind;", Cond.fieldLink RX4 36 "Backdater$Change" "field" "I", Cond.fieldLink RX4 40 "Backdater$Change" "amount" "I", Cond.fieldLink RX4 47 "Backdater$Kind" "ADD" "LBackdater$Kind;", Cond.methodLink RX4 54 Lib.Math.max.name, Cond.methodLink RX4 60 Lib.Math.min.name, Cond.static Lib.Math.min.name, Cond.code Lib.Math.min.name Lib.Math.min.code 2 (some .int), Cond.fieldLink RX4 63 "Backdater$Kind" "REINSTATE" "LBackdater$Kind;", Cond.methodLink RX4 43 yX4_putValue, Cond.instanceMethod yX4_putValue, Cond.selects RX4 yX4_putValue yX4_putValue, Cond.code yX4_putValue cX4_putValue 3 none, Cond.methodLink RX4 50 yX4_valueOf, Cond.instanceMethod yX4_valueOf, Cond.selects RX4 yX4_valueOf yX4_valueOf, Cond.code yX4_valueOf cX4_valueOf 2 (some .int), Cond.methodLink RX6 148 yX4_valueOf]
def wsL_value : List Cond := .codeWith yL_value cL_value 7 (some .int) [(0, 14, 17, 21), (0, 14, 21, 13)] :: ((wsL_value_r1 ++ (wsL_value_r2 ++ (wsL_value_r3 ++ (wsL_value_r4 ++ wsL_value_r5)))) ++ wsX60 ++ wsJx4a65c0 ++ wsX40 ++ wsX20 ++ wsX00 ++ (vx_atS RX6 192 "java/lang/IndexOutOfBoundsException" ["java/lang/RuntimeException", "java/lang/Exception"]).filter goodWord ++ (vx_atS RX6 184 "java/lang/IllegalArgumentException" ["java/lang/RuntimeException", "java/lang/Exception"]).filter goodWord)
def wsL_isCovered_r1 : List Cond := [Cond.classLink RL 21 "java/lang/IndexOutOfBoundsException", Cond.classLink RL 13 "java/lang/IllegalArgumentException", Cond.methodLink RL 49 yX6_isCovered, Cond.instanceMethod yX6_isCovered, Cond.selects RX6 yX6_isCovered yX6_isCovered, Cond.initialized RX6, Cond.code yX6_isCovered cX6_isCovered 5 (some .boolean), Cond.fieldLink RX6 29 "Backdater" "version" "LBackdater$Version;", Cond.fieldLink RX6 152 "Backdater$Version" "covered" "Z", Cond.methodLink RX6 84 yX6_policyNumbered, Cond.instanceMethod yX6_policyNumbered, Cond.selects RX6 yX6_policyNumbered yX6_policyNumbered, Cond.code yX6_policyNumbered cX6_policyNumbered 2 (some (.object "Backdater$Policy")), Cond.classLink RX6 188 "java/lang/IndexOutOfBoundsException", Cond.initialized "java/lang/IndexOutOfBoundsException", Cond.fieldLink RX6 10 "Backdater" "policies" "Ljava/util/List;", Cond.classLink RX6 61 "Backdater$Policy", Cond.methodLink RX6 48 ⟨"java/util/List", "size", "()I"⟩, Cond.selects RJx4a65c ⟨"java/util/List", "size", "()I"⟩ yJx4a65c_size_8abf5, Cond.instanceMethod yJx4a65c_size_8abf5, Cond.initialized RJx4a65c, Cond.code yJx4a65c_size_8abf5 cJx4a65c_size_8abf5 1 (some .int), Cond.fieldLink RJx4a65c 48 "java/util/ArrayList" "size" "I", Cond.methodLink RX6 127 ⟨"java/util/List", "get", "(I)Ljava/lang/Object;"⟩]
def wsL_isCovered_r2 : List Cond := [Cond.selects RJx4a65c ⟨"java/util/List", "get", "(I)Ljava/lang/Object;"⟩ yJx4a65c_get_915e3, Cond.instanceMethod yJx4a65c_get_915e3, Cond.code yJx4a65c_get_915e3 cJx4a65c_get_915e3 2 (some (.object "java/lang/Object")), Cond.methodLink RJx4a65c 118 yJ15_checkIndex_7cf53, Cond.static yJ15_checkIndex_7cf53, Cond.initialized RJ15, Cond.code yJ15_checkIndex_7cf53 cJ15_checkIndex_7cf53 2 (some .int), Cond.methodLink RJ15 105 yJ3_checkIndex_8e157, Cond.static yJ3_checkIndex_8e157, Cond.initialized RJ3, Cond.code yJ3_checkIndex_8e157 cJ3_checkIndex_8e157 3 (some .int), Cond.methodLink RJx4a65c 123 yJx4a65c_elementData_915e3, Cond.instanceMethod yJx4a65c_elementData_915e3, Cond.selects RJx4a65c yJx4a65c_elementData_915e3 yJx4a65c_elementData_915e3, Cond.code yJx4a65c_elementData_915e3 cJx4a65c_elementData_915e3 2 (some (.object "java/lang/Object")), Cond.fieldLink RJx4a65c 9 "java/util/ArrayList" "elementData" "[Ljava/lang/Object;", Cond.methodLink RX6 73 yX6_demandDay, Cond.static yX6_demandDay, Cond.code yX6_demandDay cX6_demandDay 1 none, Cond.methodLink RX6 44 yX6_demandWithin, Cond.static yX6_demandWithin, Cond.code yX6_demandWithin cX6_demandWithin 3 none, Cond.classLink RX6 180 "java/lang/IllegalArgumentException", Cond.initialized "java/lang/IllegalArgumentException"]
def wsL_isCovered_r3 : List Cond := [Cond.methodLink RX6 141 yX6_demandKnown, Cond.instanceMethod yX6_demandKnown, Cond.selects RX6 yX6_demandKnown yX6_demandKnown, Cond.code yX6_demandKnown cX6_demandKnown 2 none, Cond.fieldLink RX6 40 "Backdater" "currentDay" "I", Cond.methodLink RX6 144 yX6_layVersion, Cond.instanceMethod yX6_layVersion, Cond.selects RX6 yX6_layVersion yX6_layVersion, Cond.code yX6_layVersion cX6_layVersion 4 none, Cond.methodLink RX6 206 yX4_begin, Cond.instanceMethod yX4_begin, Cond.selects RX4 yX4_begin yX4_begin, Cond.initialized RX4, Cond.code yX4_begin cX4_begin 1 none, Cond.fieldLink RX4 9 "Backdater$Version" "values" "[I", Cond.fieldLink RX4 15 "Backdater$Version" "covered" "Z", Cond.methodLink RX4 19 yJ7_fill_53178, Cond.static yJ7_fill_53178, Cond.initialized RJ7, Cond.code yJ7_fill_53178 cJ7_fill_53178 4 none, Cond.methodLink RX6 209 yX6_layInFrom, Cond.instanceMethod yX6_layInFrom, Cond.selects RX6 yX6_layInFrom yX6_layInFrom, Cond.code yX6_layInFrom cX6_layInFrom 8 (some .int)]
def wsL_isCovered_r4 : List Cond := [Cond.fieldLink RX6 124 "Backdater$Policy" "inOrder" "Ljava/util/List;", Cond.methodLink RX6 213 Lib.Math.max.name, Cond.static Lib.Math.max.name, Cond.initialized "java/lang/Math", Cond.code Lib.Math.max.name Lib.Math.max.code 2 (some .int), Cond.classLink RX6 111 "Backdater$Change", Cond.fieldLink RX6 134 "Backdater$Change" "from" "I", Cond.methodLink RX6 137 yX0_isKnownOn, Cond.instanceMethod yX0_isKnownOn, Cond.selects RX0 yX0_isKnownOn yX0_isKnownOn, Cond.initialized RX0, Cond.code yX0_isKnownOn cX0_isKnownOn 2 (some .boolean), Cond.fieldLink RX0 35 "Backdater$Change" "toldOn" "I", Cond.fieldLink RX0 9 "Backdater$Change" "takenBackOn" "I", Cond.methodLink RX6 219 yX4_layIn, Cond.instanceMethod yX4_layIn, Cond.selects RX4 yX4_layIn yX4_layIn, Cond.code yX4_layIn cX4_layIn 3 none, Cond.fieldLink RX4 25 "Backdater$Change" "kind" "LBackdater$Kind;", Cond.fieldLink RX4 31 "Backdater$Kind" "SET" "LBackdater$Kind;", Cond.fieldLink RX4 36 "Backdater$Change" "field" "I", Cond.fieldLink RX4 40 "Backdater$Change" "amount" "I", Cond.fieldLink RX4 47 "Backdater$Kind" "ADD" "LBackdater$Kind;", Cond.methodLink RX4 54 Lib.Math.max.name]
def wsL_isCovered_r5 : List Cond := [Cond.methodLink RX4 60 Lib.Math.min.name, Cond.static Lib.Math.min.name, Cond.code Lib.Math.min.name Lib.Math.min.code 2 (some .int), Cond.fieldLink RX4 63 "Backdater$Kind" "REINSTATE" "LBackdater$Kind;", Cond.methodLink RX4 43 yX4_putValue, Cond.instanceMethod yX4_putValue, Cond.selects RX4 yX4_putValue yX4_putValue, Cond.code yX4_putValue cX4_putValue 3 none, Cond.static yX6_isField, Cond.code yX6_isField cX6_isField 1 (some .boolean), Cond.methodLink RX4 50 yX4_valueOf, Cond.instanceMethod yX4_valueOf, Cond.selects RX4 yX4_valueOf yX4_valueOf, Cond.code yX4_valueOf cX4_valueOf 2 (some .int)]
def wsL_isCovered : List Cond := .codeWith yL_isCovered cL_isCovered 6 (some .int) [(0, 19, 22, 21), (0, 19, 26, 13)] :: ((wsL_isCovered_r1 ++ (wsL_isCovered_r2 ++ (wsL_isCovered_r3 ++ (wsL_isCovered_r4 ++ wsL_isCovered_r5)))) ++ wsX60 ++ wsX40 ++ wsJx4a65c0 ++ wsX20 ++ wsX00 ++ (vx_atS RX6 192 "java/lang/IndexOutOfBoundsException" ["java/lang/RuntimeException", "java/lang/Exception"]).filter goodWord ++ (vx_atS RX6 184 "java/lang/IllegalArgumentException" ["java/lang/RuntimeException", "java/lang/Exception"]).filter goodWord)
def wsL_rate_r1 : List Cond := [Cond.classLink RL 21 "java/lang/IndexOutOfBoundsException", Cond.classLink RL 13 "java/lang/IllegalArgumentException", Cond.methodLink RL 53 yX6_rate, Cond.instanceMethod yX6_rate, Cond.selects RX6 yX6_rate yX6_rate, Cond.initialized RX6, Cond.code yX6_rate cX6_rate 5 (some .int), Cond.methodLink RX6 84 yX6_policyNumbered, Cond.instanceMethod yX6_policyNumbered, Cond.selects RX6 yX6_policyNumbered yX6_policyNumbered, Cond.code yX6_policyNumbered cX6_policyNumbered 2 (some (.object "Backdater$Policy")), Cond.classLink RX6 188 "java/lang/IndexOutOfBoundsException", Cond.initialized "java/lang/IndexOutOfBoundsException", Cond.fieldLink RX6 10 "Backdater" "policies" "Ljava/util/List;", Cond.classLink RX6 61 "Backdater$Policy", Cond.methodLink RX6 48 ⟨"java/util/List", "size", "()I"⟩, Cond.selects RJx4a65c ⟨"java/util/List", "size", "()I"⟩ yJx4a65c_size_8abf5, Cond.instanceMethod yJx4a65c_size_8abf5, Cond.initialized RJx4a65c, Cond.code yJx4a65c_size_8abf5 cJx4a65c_size_8abf5 1 (some .int), Cond.fieldLink RJx4a65c 48 "java/util/ArrayList" "size" "I", Cond.methodLink RX6 127 ⟨"java/util/List", "get", "(I)Ljava/lang/Object;"⟩, Cond.selects RJx4a65c ⟨"java/util/List", "get", "(I)Ljava/lang/Object;"⟩ yJx4a65c_get_915e3, Cond.instanceMethod yJx4a65c_get_915e3]
def wsL_rate_r2 : List Cond := [Cond.code yJx4a65c_get_915e3 cJx4a65c_get_915e3 2 (some (.object "java/lang/Object")), Cond.methodLink RJx4a65c 118 yJ15_checkIndex_7cf53, Cond.static yJ15_checkIndex_7cf53, Cond.initialized RJ15, Cond.code yJ15_checkIndex_7cf53 cJ15_checkIndex_7cf53 2 (some .int), Cond.methodLink RJ15 105 yJ3_checkIndex_8e157, Cond.static yJ3_checkIndex_8e157, Cond.initialized RJ3, Cond.code yJ3_checkIndex_8e157 cJ3_checkIndex_8e157 3 (some .int), Cond.methodLink RJx4a65c 123 yJx4a65c_elementData_915e3, Cond.instanceMethod yJx4a65c_elementData_915e3, Cond.selects RJx4a65c yJx4a65c_elementData_915e3 yJx4a65c_elementData_915e3, Cond.code yJx4a65c_elementData_915e3 cJx4a65c_elementData_915e3 2 (some (.object "java/lang/Object")), Cond.fieldLink RJx4a65c 9 "java/util/ArrayList" "elementData" "[Ljava/lang/Object;", Cond.methodLink RX6 73 yX6_demandDay, Cond.static yX6_demandDay, Cond.code yX6_demandDay cX6_demandDay 1 none, Cond.methodLink RX6 44 yX6_demandWithin, Cond.static yX6_demandWithin, Cond.code yX6_demandWithin cX6_demandWithin 3 none, Cond.classLink RX6 180 "java/lang/IllegalArgumentException", Cond.initialized "java/lang/IllegalArgumentException", Cond.methodLink RX6 141 yX6_demandKnown, Cond.instanceMethod yX6_demandKnown]
def wsL_rate_r3 : List Cond := [Cond.selects RX6 yX6_demandKnown yX6_demandKnown, Cond.code yX6_demandKnown cX6_demandKnown 2 none, Cond.fieldLink RX6 40 "Backdater" "currentDay" "I", Cond.methodLink RX6 144 yX6_layVersion, Cond.instanceMethod yX6_layVersion, Cond.selects RX6 yX6_layVersion yX6_layVersion, Cond.code yX6_layVersion cX6_layVersion 4 none, Cond.fieldLink RX6 29 "Backdater" "version" "LBackdater$Version;", Cond.methodLink RX6 206 yX4_begin, Cond.instanceMethod yX4_begin, Cond.selects RX4 yX4_begin yX4_begin, Cond.initialized RX4, Cond.code yX4_begin cX4_begin 1 none, Cond.fieldLink RX4 9 "Backdater$Version" "values" "[I", Cond.fieldLink RX4 15 "Backdater$Version" "covered" "Z", Cond.methodLink RX4 19 yJ7_fill_53178, Cond.static yJ7_fill_53178, Cond.initialized RJ7, Cond.code yJ7_fill_53178 cJ7_fill_53178 4 none, Cond.methodLink RX6 209 yX6_layInFrom, Cond.instanceMethod yX6_layInFrom, Cond.selects RX6 yX6_layInFrom yX6_layInFrom, Cond.code yX6_layInFrom cX6_layInFrom 8 (some .int), Cond.fieldLink RX6 124 "Backdater$Policy" "inOrder" "Ljava/util/List;"]
def wsL_rate_r4 : List Cond := [Cond.methodLink RX6 213 Lib.Math.max.name, Cond.static Lib.Math.max.name, Cond.initialized "java/lang/Math", Cond.code Lib.Math.max.name Lib.Math.max.code 2 (some .int), Cond.classLink RX6 111 "Backdater$Change", Cond.fieldLink RX6 134 "Backdater$Change" "from" "I", Cond.methodLink RX6 137 yX0_isKnownOn, Cond.instanceMethod yX0_isKnownOn, Cond.selects RX0 yX0_isKnownOn yX0_isKnownOn, Cond.initialized RX0, Cond.code yX0_isKnownOn cX0_isKnownOn 2 (some .boolean), Cond.fieldLink RX0 35 "Backdater$Change" "toldOn" "I", Cond.fieldLink RX0 9 "Backdater$Change" "takenBackOn" "I", Cond.methodLink RX6 219 yX4_layIn, Cond.instanceMethod yX4_layIn, Cond.selects RX4 yX4_layIn yX4_layIn, Cond.code yX4_layIn cX4_layIn 3 none, Cond.fieldLink RX4 25 "Backdater$Change" "kind" "LBackdater$Kind;", Cond.fieldLink RX4 31 "Backdater$Kind" "SET" "LBackdater$Kind;", Cond.fieldLink RX4 36 "Backdater$Change" "field" "I", Cond.fieldLink RX4 40 "Backdater$Change" "amount" "I", Cond.fieldLink RX4 47 "Backdater$Kind" "ADD" "LBackdater$Kind;", Cond.methodLink RX4 54 Lib.Math.max.name, Cond.methodLink RX4 60 Lib.Math.min.name]
def wsL_rate_r5 : List Cond := [Cond.static Lib.Math.min.name, Cond.code Lib.Math.min.name Lib.Math.min.code 2 (some .int), Cond.fieldLink RX4 63 "Backdater$Kind" "REINSTATE" "LBackdater$Kind;", Cond.methodLink RX4 43 yX4_putValue, Cond.instanceMethod yX4_putValue, Cond.selects RX4 yX4_putValue yX4_putValue, Cond.code yX4_putValue cX4_putValue 3 none, Cond.static yX6_isField, Cond.code yX6_isField cX6_isField 1 (some .boolean), Cond.methodLink RX4 50 yX4_valueOf, Cond.instanceMethod yX4_valueOf, Cond.selects RX4 yX4_valueOf yX4_valueOf, Cond.code yX4_valueOf cX4_valueOf 2 (some .int), Cond.methodLink RX6 156 yX6_rateOfVersion, Cond.instanceMethod yX6_rateOfVersion, Cond.selects RX6 yX6_rateOfVersion yX6_rateOfVersion, Cond.code yX6_rateOfVersion cX6_rateOfVersion 5 (some .int), Cond.fieldLink RX6 152 "Backdater$Version" "covered" "Z", Cond.fieldLink RX6 222 "Backdater$Policy" "base" "I", Cond.fieldLink RX6 22 "Backdater" "tariffs" "LBackdater$Tariffs;", Cond.methodLink RX6 148 yX4_valueOf, Cond.methodLink RX6 225 yX3_weightOn, Cond.instanceMethod yX3_weightOn, Cond.selects RX3 yX3_weightOn yX3_weightOn]
def wsL_rate_r6 : List Cond := [Cond.initialized RX3, Cond.code yX3_weightOn cX3_weightOn 3 (some .int), Cond.fieldLink RX3 11 "Backdater$Tariffs" "weights" "[[I", Cond.static yX6_isDay, Cond.code yX6_isDay cX6_isDay 1 (some .boolean)]
def wsL_rate : List Cond := .codeWith yL_rate cL_rate 6 (some .int) [(0, 12, 15, 21), (0, 12, 19, 13)] :: ((wsL_rate_r1 ++ (wsL_rate_r2 ++ (wsL_rate_r3 ++ (wsL_rate_r4 ++ (wsL_rate_r5 ++ wsL_rate_r6))))) ++ wsX60 ++ wsJx4a65c0 ++ wsX40 ++ wsX20 ++ wsX00 ++ wsX30 ++ (vx_atS RX6 192 "java/lang/IndexOutOfBoundsException" ["java/lang/RuntimeException", "java/lang/Exception"]).filter goodWord ++ (vx_atS RX6 184 "java/lang/IllegalArgumentException" ["java/lang/RuntimeException", "java/lang/Exception"]).filter goodWord)
def wsL_segments_r1 : List Cond := [Cond.classLink RL 21 "java/lang/IndexOutOfBoundsException", Cond.classLink RL 13 "java/lang/IllegalArgumentException", Cond.methodLink RL 56 yX6_segments, Cond.instanceMethod yX6_segments, Cond.selects RX6 yX6_segments yX6_segments, Cond.initialized RX6, Cond.code yX6_segments cX6_segments 4 (some .int), Cond.fieldLink RX6 36 "Backdater" "year" "LBackdater$Year;", Cond.methodLink RX6 84 yX6_policyNumbered, Cond.instanceMethod yX6_policyNumbered, Cond.selects RX6 yX6_policyNumbered yX6_policyNumbered, Cond.code yX6_policyNumbered cX6_policyNumbered 2 (some (.object "Backdater$Policy")), Cond.classLink RX6 188 "java/lang/IndexOutOfBoundsException", Cond.initialized "java/lang/IndexOutOfBoundsException", Cond.fieldLink RX6 10 "Backdater" "policies" "Ljava/util/List;", Cond.classLink RX6 61 "Backdater$Policy", Cond.methodLink RX6 48 ⟨"java/util/List", "size", "()I"⟩, Cond.selects RJx4a65c ⟨"java/util/List", "size", "()I"⟩ yJx4a65c_size_8abf5, Cond.instanceMethod yJx4a65c_size_8abf5, Cond.initialized RJx4a65c, Cond.code yJx4a65c_size_8abf5 cJx4a65c_size_8abf5 1 (some .int), Cond.fieldLink RJx4a65c 48 "java/util/ArrayList" "size" "I", Cond.methodLink RX6 127 ⟨"java/util/List", "get", "(I)Ljava/lang/Object;"⟩, Cond.selects RJx4a65c ⟨"java/util/List", "get", "(I)Ljava/lang/Object;"⟩ yJx4a65c_get_915e3]
def wsL_segments_r2 : List Cond := [Cond.instanceMethod yJx4a65c_get_915e3, Cond.code yJx4a65c_get_915e3 cJx4a65c_get_915e3 2 (some (.object "java/lang/Object")), Cond.methodLink RJx4a65c 118 yJ15_checkIndex_7cf53, Cond.static yJ15_checkIndex_7cf53, Cond.initialized RJ15, Cond.code yJ15_checkIndex_7cf53 cJ15_checkIndex_7cf53 2 (some .int), Cond.methodLink RJ15 105 yJ3_checkIndex_8e157, Cond.static yJ3_checkIndex_8e157, Cond.initialized RJ3, Cond.code yJ3_checkIndex_8e157 cJ3_checkIndex_8e157 3 (some .int), Cond.methodLink RJx4a65c 123 yJx4a65c_elementData_915e3, Cond.instanceMethod yJx4a65c_elementData_915e3, Cond.selects RJx4a65c yJx4a65c_elementData_915e3 yJx4a65c_elementData_915e3, Cond.code yJx4a65c_elementData_915e3 cJx4a65c_elementData_915e3 2 (some (.object "java/lang/Object")), Cond.fieldLink RJx4a65c 9 "java/util/ArrayList" "elementData" "[Ljava/lang/Object;", Cond.methodLink RX6 141 yX6_demandKnown, Cond.instanceMethod yX6_demandKnown, Cond.selects RX6 yX6_demandKnown yX6_demandKnown, Cond.code yX6_demandKnown cX6_demandKnown 2 none, Cond.fieldLink RX6 40 "Backdater" "currentDay" "I", Cond.methodLink RX6 44 yX6_demandWithin, Cond.static yX6_demandWithin, Cond.code yX6_demandWithin cX6_demandWithin 3 none, Cond.classLink RX6 180 "java/lang/IllegalArgumentException"]
def wsL_segments_r3 : List Cond := [Cond.initialized "java/lang/IllegalArgumentException", Cond.methodLink RX6 160 yX6_layYear, Cond.instanceMethod yX6_layYear, Cond.selects RX6 yX6_layYear yX6_layYear, Cond.code yX6_layYear cX6_layYear 5 none, Cond.fieldLink RX6 29 "Backdater" "version" "LBackdater$Version;", Cond.methodLink RX6 206 yX4_begin, Cond.instanceMethod yX4_begin, Cond.selects RX4 yX4_begin yX4_begin, Cond.initialized RX4, Cond.code yX4_begin cX4_begin 1 none, Cond.fieldLink RX4 9 "Backdater$Version" "values" "[I", Cond.fieldLink RX4 15 "Backdater$Version" "covered" "Z", Cond.methodLink RX4 19 yJ7_fill_53178, Cond.static yJ7_fill_53178, Cond.initialized RJ7, Cond.code yJ7_fill_53178 cJ7_fill_53178 4 none, Cond.methodLink RX6 209 yX6_layInFrom, Cond.instanceMethod yX6_layInFrom, Cond.selects RX6 yX6_layInFrom yX6_layInFrom, Cond.code yX6_layInFrom cX6_layInFrom 8 (some .int), Cond.fieldLink RX6 124 "Backdater$Policy" "inOrder" "Ljava/util/List;", Cond.methodLink RX6 213 Lib.Math.max.name, Cond.static Lib.Math.max.name]
def wsL_segments_r4 : List Cond := [Cond.initialized "java/lang/Math", Cond.code Lib.Math.max.name Lib.Math.max.code 2 (some .int), Cond.classLink RX6 111 "Backdater$Change", Cond.fieldLink RX6 134 "Backdater$Change" "from" "I", Cond.methodLink RX6 137 yX0_isKnownOn, Cond.instanceMethod yX0_isKnownOn, Cond.selects RX0 yX0_isKnownOn yX0_isKnownOn, Cond.initialized RX0, Cond.code yX0_isKnownOn cX0_isKnownOn 2 (some .boolean), Cond.fieldLink RX0 35 "Backdater$Change" "toldOn" "I", Cond.fieldLink RX0 9 "Backdater$Change" "takenBackOn" "I", Cond.methodLink RX6 219 yX4_layIn, Cond.instanceMethod yX4_layIn, Cond.selects RX4 yX4_layIn yX4_layIn, Cond.code yX4_layIn cX4_layIn 3 none, Cond.fieldLink RX4 25 "Backdater$Change" "kind" "LBackdater$Kind;", Cond.fieldLink RX4 31 "Backdater$Kind" "SET" "LBackdater$Kind;", Cond.fieldLink RX4 36 "Backdater$Change" "field" "I", Cond.fieldLink RX4 40 "Backdater$Change" "amount" "I", Cond.fieldLink RX4 47 "Backdater$Kind" "ADD" "LBackdater$Kind;", Cond.methodLink RX4 54 Lib.Math.max.name, Cond.methodLink RX4 60 Lib.Math.min.name, Cond.static Lib.Math.min.name, Cond.code Lib.Math.min.name Lib.Math.min.code 2 (some .int)]
def wsL_segments_r5 : List Cond := [Cond.fieldLink RX4 63 "Backdater$Kind" "REINSTATE" "LBackdater$Kind;", Cond.methodLink RX4 43 yX4_putValue, Cond.instanceMethod yX4_putValue, Cond.selects RX4 yX4_putValue yX4_putValue, Cond.code yX4_putValue cX4_putValue 3 none, Cond.static yX6_isField, Cond.code yX6_isField cX6_isField 1 (some .boolean), Cond.methodLink RX4 50 yX4_valueOf, Cond.instanceMethod yX4_valueOf, Cond.selects RX4 yX4_valueOf yX4_valueOf, Cond.code yX4_valueOf cX4_valueOf 2 (some .int), Cond.methodLink RX6 156 yX6_rateOfVersion, Cond.instanceMethod yX6_rateOfVersion, Cond.selects RX6 yX6_rateOfVersion yX6_rateOfVersion, Cond.code yX6_rateOfVersion cX6_rateOfVersion 5 (some .int), Cond.fieldLink RX6 152 "Backdater$Version" "covered" "Z", Cond.fieldLink RX6 222 "Backdater$Policy" "base" "I", Cond.fieldLink RX6 22 "Backdater" "tariffs" "LBackdater$Tariffs;", Cond.methodLink RX6 148 yX4_valueOf, Cond.methodLink RX6 225 yX3_weightOn, Cond.instanceMethod yX3_weightOn, Cond.selects RX3 yX3_weightOn yX3_weightOn, Cond.initialized RX3, Cond.code yX3_weightOn cX3_weightOn 3 (some .int)]
def wsL_segments_r6 : List Cond := [Cond.fieldLink RX3 11 "Backdater$Tariffs" "weights" "[[I", Cond.static yX6_isDay, Cond.code yX6_isDay cX6_isDay 1 (some .boolean), Cond.methodLink RX6 228 yX5_putRate, Cond.instanceMethod yX5_putRate, Cond.selects RX5 yX5_putRate yX5_putRate, Cond.initialized RX5, Cond.code yX5_putRate cX5_putRate 3 none, Cond.fieldLink RX5 9 "Backdater$Year" "rates" "[I", Cond.fieldLink RX5 15 "Backdater$Year" "sums" "[I", Cond.methodLink RX6 164 yX5_countSegments, Cond.instanceMethod yX5_countSegments, Cond.selects RX5 yX5_countSegments yX5_countSegments, Cond.code yX5_countSegments cX5_countSegments 3 (some .int), Cond.methodLink RX5 22 yX5_isStart, Cond.instanceMethod yX5_isStart, Cond.selects RX5 yX5_isStart yX5_isStart, Cond.code yX5_isStart cX5_isStart 2 (some .boolean)]
def wsL_segments : List Cond := .codeWith yL_segments cL_segments 5 (some .int) [(0, 10, 13, 21), (0, 10, 17, 13)] :: ((wsL_segments_r1 ++ (wsL_segments_r2 ++ (wsL_segments_r3 ++ (wsL_segments_r4 ++ (wsL_segments_r5 ++ wsL_segments_r6))))) ++ wsX60 ++ wsJx4a65c0 ++ wsX40 ++ wsX20 ++ wsX00 ++ wsX30 ++ wsX50 ++ (vx_atS RX6 192 "java/lang/IndexOutOfBoundsException" ["java/lang/RuntimeException", "java/lang/Exception"]).filter goodWord ++ (vx_atS RX6 184 "java/lang/IllegalArgumentException" ["java/lang/RuntimeException", "java/lang/Exception"]).filter goodWord)
def wsL_segmentStart_r1 : List Cond := [Cond.classLink RL 13 "java/lang/IllegalArgumentException", Cond.classLink RL 21 "java/lang/IndexOutOfBoundsException", Cond.methodLink RL 59 yX6_segmentStart, Cond.instanceMethod yX6_segmentStart, Cond.selects RX6 yX6_segmentStart yX6_segmentStart, Cond.initialized RX6, Cond.code yX6_segmentStart cX6_segmentStart 4 (some .int), Cond.methodLink RX6 141 yX6_demandKnown, Cond.instanceMethod yX6_demandKnown, Cond.selects RX6 yX6_demandKnown yX6_demandKnown, Cond.code yX6_demandKnown cX6_demandKnown 2 none, Cond.fieldLink RX6 40 "Backdater" "currentDay" "I", Cond.methodLink RX6 44 yX6_demandWithin, Cond.static yX6_demandWithin, Cond.code yX6_demandWithin cX6_demandWithin 3 none, Cond.classLink RX6 180 "java/lang/IllegalArgumentException", Cond.initialized "java/lang/IllegalArgumentException", Cond.methodLink RX6 167 yX6_startOfSegment, Cond.instanceMethod yX6_startOfSegment, Cond.selects RX6 yX6_startOfSegment yX6_startOfSegment, Cond.code yX6_startOfSegment cX6_startOfSegment 5 (some .int), Cond.classLink RX6 188 "java/lang/IndexOutOfBoundsException", Cond.initialized "java/lang/IndexOutOfBoundsException", Cond.fieldLink RX6 36 "Backdater" "year" "LBackdater$Year;"]
def wsL_segmentStart_r2 : List Cond := [Cond.methodLink RX6 84 yX6_policyNumbered, Cond.instanceMethod yX6_policyNumbered, Cond.selects RX6 yX6_policyNumbered yX6_policyNumbered, Cond.code yX6_policyNumbered cX6_policyNumbered 2 (some (.object "Backdater$Policy")), Cond.fieldLink RX6 10 "Backdater" "policies" "Ljava/util/List;", Cond.classLink RX6 61 "Backdater$Policy", Cond.methodLink RX6 48 ⟨"java/util/List", "size", "()I"⟩, Cond.selects RJx4a65c ⟨"java/util/List", "size", "()I"⟩ yJx4a65c_size_8abf5, Cond.instanceMethod yJx4a65c_size_8abf5, Cond.initialized RJx4a65c, Cond.code yJx4a65c_size_8abf5 cJx4a65c_size_8abf5 1 (some .int), Cond.fieldLink RJx4a65c 48 "java/util/ArrayList" "size" "I", Cond.methodLink RX6 127 ⟨"java/util/List", "get", "(I)Ljava/lang/Object;"⟩, Cond.selects RJx4a65c ⟨"java/util/List", "get", "(I)Ljava/lang/Object;"⟩ yJx4a65c_get_915e3, Cond.instanceMethod yJx4a65c_get_915e3, Cond.code yJx4a65c_get_915e3 cJx4a65c_get_915e3 2 (some (.object "java/lang/Object")), Cond.methodLink RJx4a65c 118 yJ15_checkIndex_7cf53, Cond.static yJ15_checkIndex_7cf53, Cond.initialized RJ15, Cond.code yJ15_checkIndex_7cf53 cJ15_checkIndex_7cf53 2 (some .int), Cond.methodLink RJ15 105 yJ3_checkIndex_8e157, Cond.static yJ3_checkIndex_8e157, Cond.initialized RJ3, Cond.code yJ3_checkIndex_8e157 cJ3_checkIndex_8e157 3 (some .int)]
def wsL_segmentStart_r3 : List Cond := [Cond.methodLink RJx4a65c 123 yJx4a65c_elementData_915e3, Cond.instanceMethod yJx4a65c_elementData_915e3, Cond.selects RJx4a65c yJx4a65c_elementData_915e3 yJx4a65c_elementData_915e3, Cond.code yJx4a65c_elementData_915e3 cJx4a65c_elementData_915e3 2 (some (.object "java/lang/Object")), Cond.fieldLink RJx4a65c 9 "java/util/ArrayList" "elementData" "[Ljava/lang/Object;", Cond.methodLink RX6 160 yX6_layYear, Cond.instanceMethod yX6_layYear, Cond.selects RX6 yX6_layYear yX6_layYear, Cond.code yX6_layYear cX6_layYear 5 none, Cond.fieldLink RX6 29 "Backdater" "version" "LBackdater$Version;", Cond.methodLink RX6 206 yX4_begin, Cond.instanceMethod yX4_begin, Cond.selects RX4 yX4_begin yX4_begin, Cond.initialized RX4, Cond.code yX4_begin cX4_begin 1 none, Cond.fieldLink RX4 9 "Backdater$Version" "values" "[I", Cond.fieldLink RX4 15 "Backdater$Version" "covered" "Z", Cond.methodLink RX4 19 yJ7_fill_53178, Cond.static yJ7_fill_53178, Cond.initialized RJ7, Cond.code yJ7_fill_53178 cJ7_fill_53178 4 none, Cond.methodLink RX6 209 yX6_layInFrom, Cond.instanceMethod yX6_layInFrom, Cond.selects RX6 yX6_layInFrom yX6_layInFrom]
def wsL_segmentStart_r4 : List Cond := [Cond.code yX6_layInFrom cX6_layInFrom 8 (some .int), Cond.fieldLink RX6 124 "Backdater$Policy" "inOrder" "Ljava/util/List;", Cond.methodLink RX6 213 Lib.Math.max.name, Cond.static Lib.Math.max.name, Cond.initialized "java/lang/Math", Cond.code Lib.Math.max.name Lib.Math.max.code 2 (some .int), Cond.classLink RX6 111 "Backdater$Change", Cond.fieldLink RX6 134 "Backdater$Change" "from" "I", Cond.methodLink RX6 137 yX0_isKnownOn, Cond.instanceMethod yX0_isKnownOn, Cond.selects RX0 yX0_isKnownOn yX0_isKnownOn, Cond.initialized RX0, Cond.code yX0_isKnownOn cX0_isKnownOn 2 (some .boolean), Cond.fieldLink RX0 35 "Backdater$Change" "toldOn" "I", Cond.fieldLink RX0 9 "Backdater$Change" "takenBackOn" "I", Cond.methodLink RX6 219 yX4_layIn, Cond.instanceMethod yX4_layIn, Cond.selects RX4 yX4_layIn yX4_layIn, Cond.code yX4_layIn cX4_layIn 3 none, Cond.fieldLink RX4 25 "Backdater$Change" "kind" "LBackdater$Kind;", Cond.fieldLink RX4 31 "Backdater$Kind" "SET" "LBackdater$Kind;", Cond.fieldLink RX4 36 "Backdater$Change" "field" "I", Cond.fieldLink RX4 40 "Backdater$Change" "amount" "I", Cond.fieldLink RX4 47 "Backdater$Kind" "ADD" "LBackdater$Kind;"]
def wsL_segmentStart_r5 : List Cond := [Cond.methodLink RX4 54 Lib.Math.max.name, Cond.methodLink RX4 60 Lib.Math.min.name, Cond.static Lib.Math.min.name, Cond.code Lib.Math.min.name Lib.Math.min.code 2 (some .int), Cond.fieldLink RX4 63 "Backdater$Kind" "REINSTATE" "LBackdater$Kind;", Cond.methodLink RX4 43 yX4_putValue, Cond.instanceMethod yX4_putValue, Cond.selects RX4 yX4_putValue yX4_putValue, Cond.code yX4_putValue cX4_putValue 3 none, Cond.static yX6_isField, Cond.code yX6_isField cX6_isField 1 (some .boolean), Cond.methodLink RX4 50 yX4_valueOf, Cond.instanceMethod yX4_valueOf, Cond.selects RX4 yX4_valueOf yX4_valueOf, Cond.code yX4_valueOf cX4_valueOf 2 (some .int), Cond.methodLink RX6 156 yX6_rateOfVersion, Cond.instanceMethod yX6_rateOfVersion, Cond.selects RX6 yX6_rateOfVersion yX6_rateOfVersion, Cond.code yX6_rateOfVersion cX6_rateOfVersion 5 (some .int), Cond.fieldLink RX6 152 "Backdater$Version" "covered" "Z", Cond.fieldLink RX6 222 "Backdater$Policy" "base" "I", Cond.fieldLink RX6 22 "Backdater" "tariffs" "LBackdater$Tariffs;", Cond.methodLink RX6 148 yX4_valueOf, Cond.methodLink RX6 225 yX3_weightOn]
def wsL_segmentStart_r6 : List Cond := [Cond.instanceMethod yX3_weightOn, Cond.selects RX3 yX3_weightOn yX3_weightOn, Cond.initialized RX3, Cond.code yX3_weightOn cX3_weightOn 3 (some .int), Cond.fieldLink RX3 11 "Backdater$Tariffs" "weights" "[[I", Cond.static yX6_isDay, Cond.code yX6_isDay cX6_isDay 1 (some .boolean), Cond.methodLink RX6 228 yX5_putRate, Cond.instanceMethod yX5_putRate, Cond.selects RX5 yX5_putRate yX5_putRate, Cond.initialized RX5, Cond.code yX5_putRate cX5_putRate 3 none, Cond.fieldLink RX5 9 "Backdater$Year" "rates" "[I", Cond.fieldLink RX5 15 "Backdater$Year" "sums" "[I", Cond.methodLink RX6 232 yX5_startOf, Cond.instanceMethod yX5_startOf, Cond.selects RX5 yX5_startOf yX5_startOf, Cond.code yX5_startOf cX5_startOf 4 (some .int), Cond.methodLink RX5 22 yX5_isStart, Cond.instanceMethod yX5_isStart, Cond.selects RX5 yX5_isStart yX5_isStart, Cond.code yX5_isStart cX5_isStart 2 (some .boolean)]
def wsL_segmentStart : List Cond := .codeWith yL_segmentStart cL_segmentStart 6 (some .int) [(0, 12, 15, 13), (0, 12, 19, 21)] :: ((wsL_segmentStart_r1 ++ (wsL_segmentStart_r2 ++ (wsL_segmentStart_r3 ++ (wsL_segmentStart_r4 ++ (wsL_segmentStart_r5 ++ wsL_segmentStart_r6))))) ++ wsX60 ++ wsJx4a65c0 ++ wsX40 ++ wsX20 ++ wsX00 ++ wsX30 ++ wsX50 ++ (vx_atS RX6 184 "java/lang/IllegalArgumentException" ["java/lang/RuntimeException", "java/lang/Exception"]).filter goodWord ++ (vx_atS RX6 192 "java/lang/IndexOutOfBoundsException" ["java/lang/RuntimeException", "java/lang/Exception"]).filter goodWord)
def wsL_segmentPremium_r1 : List Cond := [Cond.classLink RL 13 "java/lang/IllegalArgumentException", Cond.classLink RL 21 "java/lang/IndexOutOfBoundsException", Cond.methodLink RL 62 yX6_segmentPremium, Cond.instanceMethod yX6_segmentPremium, Cond.selects RX6 yX6_segmentPremium yX6_segmentPremium, Cond.initialized RX6, Cond.code yX6_segmentPremium cX6_segmentPremium 4 (some .int), Cond.fieldLink RX6 36 "Backdater" "year" "LBackdater$Year;", Cond.methodLink RX6 141 yX6_demandKnown, Cond.instanceMethod yX6_demandKnown, Cond.selects RX6 yX6_demandKnown yX6_demandKnown, Cond.code yX6_demandKnown cX6_demandKnown 2 none, Cond.fieldLink RX6 40 "Backdater" "currentDay" "I", Cond.methodLink RX6 44 yX6_demandWithin, Cond.static yX6_demandWithin, Cond.code yX6_demandWithin cX6_demandWithin 3 none, Cond.classLink RX6 180 "java/lang/IllegalArgumentException", Cond.initialized "java/lang/IllegalArgumentException", Cond.methodLink RX6 167 yX6_startOfSegment, Cond.instanceMethod yX6_startOfSegment, Cond.selects RX6 yX6_startOfSegment yX6_startOfSegment, Cond.code yX6_startOfSegment cX6_startOfSegment 5 (some .int), Cond.classLink RX6 188 "java/lang/IndexOutOfBoundsException", Cond.initialized "java/lang/IndexOutOfBoundsException"]
def wsL_segmentPremium_r2 : List Cond := [Cond.methodLink RX6 84 yX6_policyNumbered, Cond.instanceMethod yX6_policyNumbered, Cond.selects RX6 yX6_policyNumbered yX6_policyNumbered, Cond.code yX6_policyNumbered cX6_policyNumbered 2 (some (.object "Backdater$Policy")), Cond.fieldLink RX6 10 "Backdater" "policies" "Ljava/util/List;", Cond.classLink RX6 61 "Backdater$Policy", Cond.methodLink RX6 48 ⟨"java/util/List", "size", "()I"⟩, Cond.selects RJx4a65c ⟨"java/util/List", "size", "()I"⟩ yJx4a65c_size_8abf5, Cond.instanceMethod yJx4a65c_size_8abf5, Cond.initialized RJx4a65c, Cond.code yJx4a65c_size_8abf5 cJx4a65c_size_8abf5 1 (some .int), Cond.fieldLink RJx4a65c 48 "java/util/ArrayList" "size" "I", Cond.methodLink RX6 127 ⟨"java/util/List", "get", "(I)Ljava/lang/Object;"⟩, Cond.selects RJx4a65c ⟨"java/util/List", "get", "(I)Ljava/lang/Object;"⟩ yJx4a65c_get_915e3, Cond.instanceMethod yJx4a65c_get_915e3, Cond.code yJx4a65c_get_915e3 cJx4a65c_get_915e3 2 (some (.object "java/lang/Object")), Cond.methodLink RJx4a65c 118 yJ15_checkIndex_7cf53, Cond.static yJ15_checkIndex_7cf53, Cond.initialized RJ15, Cond.code yJ15_checkIndex_7cf53 cJ15_checkIndex_7cf53 2 (some .int), Cond.methodLink RJ15 105 yJ3_checkIndex_8e157, Cond.static yJ3_checkIndex_8e157, Cond.initialized RJ3, Cond.code yJ3_checkIndex_8e157 cJ3_checkIndex_8e157 3 (some .int)]
def wsL_segmentPremium_r3 : List Cond := [Cond.methodLink RJx4a65c 123 yJx4a65c_elementData_915e3, Cond.instanceMethod yJx4a65c_elementData_915e3, Cond.selects RJx4a65c yJx4a65c_elementData_915e3 yJx4a65c_elementData_915e3, Cond.code yJx4a65c_elementData_915e3 cJx4a65c_elementData_915e3 2 (some (.object "java/lang/Object")), Cond.fieldLink RJx4a65c 9 "java/util/ArrayList" "elementData" "[Ljava/lang/Object;", Cond.methodLink RX6 160 yX6_layYear, Cond.instanceMethod yX6_layYear, Cond.selects RX6 yX6_layYear yX6_layYear, Cond.code yX6_layYear cX6_layYear 5 none, Cond.fieldLink RX6 29 "Backdater" "version" "LBackdater$Version;", Cond.methodLink RX6 206 yX4_begin, Cond.instanceMethod yX4_begin, Cond.selects RX4 yX4_begin yX4_begin, Cond.initialized RX4, Cond.code yX4_begin cX4_begin 1 none, Cond.fieldLink RX4 9 "Backdater$Version" "values" "[I", Cond.fieldLink RX4 15 "Backdater$Version" "covered" "Z", Cond.methodLink RX4 19 yJ7_fill_53178, Cond.static yJ7_fill_53178, Cond.initialized RJ7, Cond.code yJ7_fill_53178 cJ7_fill_53178 4 none, Cond.methodLink RX6 209 yX6_layInFrom, Cond.instanceMethod yX6_layInFrom, Cond.selects RX6 yX6_layInFrom yX6_layInFrom]
def wsL_segmentPremium_r4 : List Cond := [Cond.code yX6_layInFrom cX6_layInFrom 8 (some .int), Cond.fieldLink RX6 124 "Backdater$Policy" "inOrder" "Ljava/util/List;", Cond.methodLink RX6 213 Lib.Math.max.name, Cond.static Lib.Math.max.name, Cond.initialized "java/lang/Math", Cond.code Lib.Math.max.name Lib.Math.max.code 2 (some .int), Cond.classLink RX6 111 "Backdater$Change", Cond.fieldLink RX6 134 "Backdater$Change" "from" "I", Cond.methodLink RX6 137 yX0_isKnownOn, Cond.instanceMethod yX0_isKnownOn, Cond.selects RX0 yX0_isKnownOn yX0_isKnownOn, Cond.initialized RX0, Cond.code yX0_isKnownOn cX0_isKnownOn 2 (some .boolean), Cond.fieldLink RX0 35 "Backdater$Change" "toldOn" "I", Cond.fieldLink RX0 9 "Backdater$Change" "takenBackOn" "I", Cond.methodLink RX6 219 yX4_layIn, Cond.instanceMethod yX4_layIn, Cond.selects RX4 yX4_layIn yX4_layIn, Cond.code yX4_layIn cX4_layIn 3 none, Cond.fieldLink RX4 25 "Backdater$Change" "kind" "LBackdater$Kind;", Cond.fieldLink RX4 31 "Backdater$Kind" "SET" "LBackdater$Kind;", Cond.fieldLink RX4 36 "Backdater$Change" "field" "I", Cond.fieldLink RX4 40 "Backdater$Change" "amount" "I", Cond.fieldLink RX4 47 "Backdater$Kind" "ADD" "LBackdater$Kind;"]
def wsL_segmentPremium_r5 : List Cond := [Cond.methodLink RX4 54 Lib.Math.max.name, Cond.methodLink RX4 60 Lib.Math.min.name, Cond.static Lib.Math.min.name, Cond.code Lib.Math.min.name Lib.Math.min.code 2 (some .int), Cond.fieldLink RX4 63 "Backdater$Kind" "REINSTATE" "LBackdater$Kind;", Cond.methodLink RX4 43 yX4_putValue, Cond.instanceMethod yX4_putValue, Cond.selects RX4 yX4_putValue yX4_putValue, Cond.code yX4_putValue cX4_putValue 3 none, Cond.static yX6_isField, Cond.code yX6_isField cX6_isField 1 (some .boolean), Cond.methodLink RX4 50 yX4_valueOf, Cond.instanceMethod yX4_valueOf, Cond.selects RX4 yX4_valueOf yX4_valueOf, Cond.code yX4_valueOf cX4_valueOf 2 (some .int), Cond.methodLink RX6 156 yX6_rateOfVersion, Cond.instanceMethod yX6_rateOfVersion, Cond.selects RX6 yX6_rateOfVersion yX6_rateOfVersion, Cond.code yX6_rateOfVersion cX6_rateOfVersion 5 (some .int), Cond.fieldLink RX6 152 "Backdater$Version" "covered" "Z", Cond.fieldLink RX6 222 "Backdater$Policy" "base" "I", Cond.fieldLink RX6 22 "Backdater" "tariffs" "LBackdater$Tariffs;", Cond.methodLink RX6 148 yX4_valueOf, Cond.methodLink RX6 225 yX3_weightOn]
def wsL_segmentPremium_r6 : List Cond := [Cond.instanceMethod yX3_weightOn, Cond.selects RX3 yX3_weightOn yX3_weightOn, Cond.initialized RX3, Cond.code yX3_weightOn cX3_weightOn 3 (some .int), Cond.fieldLink RX3 11 "Backdater$Tariffs" "weights" "[[I", Cond.static yX6_isDay, Cond.code yX6_isDay cX6_isDay 1 (some .boolean), Cond.methodLink RX6 228 yX5_putRate, Cond.instanceMethod yX5_putRate, Cond.selects RX5 yX5_putRate yX5_putRate, Cond.initialized RX5, Cond.code yX5_putRate cX5_putRate 3 none, Cond.fieldLink RX5 9 "Backdater$Year" "rates" "[I", Cond.fieldLink RX5 15 "Backdater$Year" "sums" "[I", Cond.methodLink RX6 232 yX5_startOf, Cond.instanceMethod yX5_startOf, Cond.selects RX5 yX5_startOf yX5_startOf, Cond.code yX5_startOf cX5_startOf 4 (some .int), Cond.methodLink RX5 22 yX5_isStart, Cond.instanceMethod yX5_isStart, Cond.selects RX5 yX5_isStart yX5_isStart, Cond.code yX5_isStart cX5_isStart 2 (some .boolean), Cond.methodLink RX6 171 yX5_premiumOfSegmentFrom, Cond.instanceMethod yX5_premiumOfSegmentFrom]
def wsL_segmentPremium_r7 : List Cond := [Cond.selects RX5 yX5_premiumOfSegmentFrom yX5_premiumOfSegmentFrom, Cond.code yX5_premiumOfSegmentFrom cX5_premiumOfSegmentFrom 2 (some .int), Cond.methodLink RX5 25 yX5_dayBehindSegmentFrom, Cond.instanceMethod yX5_dayBehindSegmentFrom, Cond.selects RX5 yX5_dayBehindSegmentFrom yX5_dayBehindSegmentFrom, Cond.code yX5_dayBehindSegmentFrom cX5_dayBehindSegmentFrom 3 (some .int), Cond.methodLink RX5 29 yX5_chargeUpTo, Cond.instanceMethod yX5_chargeUpTo, Cond.selects RX5 yX5_chargeUpTo yX5_chargeUpTo, Cond.code yX5_chargeUpTo cX5_chargeUpTo 2 (some .int)]
def wsL_segmentPremium : List Cond := .codeWith yL_segmentPremium cL_segmentPremium 6 (some .int) [(0, 12, 15, 13), (0, 12, 19, 21)] :: ((wsL_segmentPremium_r1 ++ (wsL_segmentPremium_r2 ++ (wsL_segmentPremium_r3 ++ (wsL_segmentPremium_r4 ++ (wsL_segmentPremium_r5 ++ (wsL_segmentPremium_r6 ++ wsL_segmentPremium_r7)))))) ++ wsX60 ++ wsJx4a65c0 ++ wsX40 ++ wsX20 ++ wsX00 ++ wsX30 ++ wsX50 ++ (vx_atS RX6 184 "java/lang/IllegalArgumentException" ["java/lang/RuntimeException", "java/lang/Exception"]).filter goodWord ++ (vx_atS RX6 192 "java/lang/IndexOutOfBoundsException" ["java/lang/RuntimeException", "java/lang/Exception"]).filter goodWord)
def wsL_premium_r1 : List Cond := [Cond.classLink RL 21 "java/lang/IndexOutOfBoundsException", Cond.classLink RL 13 "java/lang/IllegalArgumentException", Cond.methodLink RL 65 yX6_premium, Cond.instanceMethod yX6_premium, Cond.selects RX6 yX6_premium yX6_premium, Cond.initialized RX6, Cond.code yX6_premium cX6_premium 4 (some .int), Cond.methodLink RX6 84 yX6_policyNumbered, Cond.instanceMethod yX6_policyNumbered, Cond.selects RX6 yX6_policyNumbered yX6_policyNumbered, Cond.code yX6_policyNumbered cX6_policyNumbered 2 (some (.object "Backdater$Policy")), Cond.classLink RX6 188 "java/lang/IndexOutOfBoundsException", Cond.initialized "java/lang/IndexOutOfBoundsException", Cond.fieldLink RX6 10 "Backdater" "policies" "Ljava/util/List;", Cond.classLink RX6 61 "Backdater$Policy", Cond.methodLink RX6 48 ⟨"java/util/List", "size", "()I"⟩, Cond.selects RJx4a65c ⟨"java/util/List", "size", "()I"⟩ yJx4a65c_size_8abf5, Cond.instanceMethod yJx4a65c_size_8abf5, Cond.initialized RJx4a65c, Cond.code yJx4a65c_size_8abf5 cJx4a65c_size_8abf5 1 (some .int), Cond.fieldLink RJx4a65c 48 "java/util/ArrayList" "size" "I", Cond.methodLink RX6 127 ⟨"java/util/List", "get", "(I)Ljava/lang/Object;"⟩, Cond.selects RJx4a65c ⟨"java/util/List", "get", "(I)Ljava/lang/Object;"⟩ yJx4a65c_get_915e3, Cond.instanceMethod yJx4a65c_get_915e3]
def wsL_premium_r2 : List Cond := [Cond.code yJx4a65c_get_915e3 cJx4a65c_get_915e3 2 (some (.object "java/lang/Object")), Cond.methodLink RJx4a65c 118 yJ15_checkIndex_7cf53, Cond.static yJ15_checkIndex_7cf53, Cond.initialized RJ15, Cond.code yJ15_checkIndex_7cf53 cJ15_checkIndex_7cf53 2 (some .int), Cond.methodLink RJ15 105 yJ3_checkIndex_8e157, Cond.static yJ3_checkIndex_8e157, Cond.initialized RJ3, Cond.code yJ3_checkIndex_8e157 cJ3_checkIndex_8e157 3 (some .int), Cond.methodLink RJx4a65c 123 yJx4a65c_elementData_915e3, Cond.instanceMethod yJx4a65c_elementData_915e3, Cond.selects RJx4a65c yJx4a65c_elementData_915e3 yJx4a65c_elementData_915e3, Cond.code yJx4a65c_elementData_915e3 cJx4a65c_elementData_915e3 2 (some (.object "java/lang/Object")), Cond.fieldLink RJx4a65c 9 "java/util/ArrayList" "elementData" "[Ljava/lang/Object;", Cond.methodLink RX6 141 yX6_demandKnown, Cond.instanceMethod yX6_demandKnown, Cond.selects RX6 yX6_demandKnown yX6_demandKnown, Cond.code yX6_demandKnown cX6_demandKnown 2 none, Cond.fieldLink RX6 40 "Backdater" "currentDay" "I", Cond.methodLink RX6 44 yX6_demandWithin, Cond.static yX6_demandWithin, Cond.code yX6_demandWithin cX6_demandWithin 3 none, Cond.classLink RX6 180 "java/lang/IllegalArgumentException", Cond.initialized "java/lang/IllegalArgumentException"]
def wsL_premium_r3 : List Cond := [Cond.methodLink RX6 174 yX6_premiumBySegments, Cond.instanceMethod yX6_premiumBySegments, Cond.selects RX6 yX6_premiumBySegments yX6_premiumBySegments, Cond.code yX6_premiumBySegments cX6_premiumBySegments 3 (some .int), Cond.fieldLink RX6 36 "Backdater" "year" "LBackdater$Year;", Cond.methodLink RX6 160 yX6_layYear, Cond.instanceMethod yX6_layYear, Cond.selects RX6 yX6_layYear yX6_layYear, Cond.code yX6_layYear cX6_layYear 5 none, Cond.fieldLink RX6 29 "Backdater" "version" "LBackdater$Version;", Cond.methodLink RX6 206 yX4_begin, Cond.instanceMethod yX4_begin, Cond.selects RX4 yX4_begin yX4_begin, Cond.initialized RX4, Cond.code yX4_begin cX4_begin 1 none, Cond.fieldLink RX4 9 "Backdater$Version" "values" "[I", Cond.fieldLink RX4 15 "Backdater$Version" "covered" "Z", Cond.methodLink RX4 19 yJ7_fill_53178, Cond.static yJ7_fill_53178, Cond.initialized RJ7, Cond.code yJ7_fill_53178 cJ7_fill_53178 4 none, Cond.methodLink RX6 209 yX6_layInFrom, Cond.instanceMethod yX6_layInFrom, Cond.selects RX6 yX6_layInFrom yX6_layInFrom]
def wsL_premium_r4 : List Cond := [Cond.code yX6_layInFrom cX6_layInFrom 8 (some .int), Cond.fieldLink RX6 124 "Backdater$Policy" "inOrder" "Ljava/util/List;", Cond.methodLink RX6 213 Lib.Math.max.name, Cond.static Lib.Math.max.name, Cond.initialized "java/lang/Math", Cond.code Lib.Math.max.name Lib.Math.max.code 2 (some .int), Cond.classLink RX6 111 "Backdater$Change", Cond.fieldLink RX6 134 "Backdater$Change" "from" "I", Cond.methodLink RX6 137 yX0_isKnownOn, Cond.instanceMethod yX0_isKnownOn, Cond.selects RX0 yX0_isKnownOn yX0_isKnownOn, Cond.initialized RX0, Cond.code yX0_isKnownOn cX0_isKnownOn 2 (some .boolean), Cond.fieldLink RX0 35 "Backdater$Change" "toldOn" "I", Cond.fieldLink RX0 9 "Backdater$Change" "takenBackOn" "I", Cond.methodLink RX6 219 yX4_layIn, Cond.instanceMethod yX4_layIn, Cond.selects RX4 yX4_layIn yX4_layIn, Cond.code yX4_layIn cX4_layIn 3 none, Cond.fieldLink RX4 25 "Backdater$Change" "kind" "LBackdater$Kind;", Cond.fieldLink RX4 31 "Backdater$Kind" "SET" "LBackdater$Kind;", Cond.fieldLink RX4 36 "Backdater$Change" "field" "I", Cond.fieldLink RX4 40 "Backdater$Change" "amount" "I", Cond.fieldLink RX4 47 "Backdater$Kind" "ADD" "LBackdater$Kind;"]
def wsL_premium_r5 : List Cond := [Cond.methodLink RX4 54 Lib.Math.max.name, Cond.methodLink RX4 60 Lib.Math.min.name, Cond.static Lib.Math.min.name, Cond.code Lib.Math.min.name Lib.Math.min.code 2 (some .int), Cond.fieldLink RX4 63 "Backdater$Kind" "REINSTATE" "LBackdater$Kind;", Cond.methodLink RX4 43 yX4_putValue, Cond.instanceMethod yX4_putValue, Cond.selects RX4 yX4_putValue yX4_putValue, Cond.code yX4_putValue cX4_putValue 3 none, Cond.static yX6_isField, Cond.code yX6_isField cX6_isField 1 (some .boolean), Cond.methodLink RX4 50 yX4_valueOf, Cond.instanceMethod yX4_valueOf, Cond.selects RX4 yX4_valueOf yX4_valueOf, Cond.code yX4_valueOf cX4_valueOf 2 (some .int), Cond.methodLink RX6 156 yX6_rateOfVersion, Cond.instanceMethod yX6_rateOfVersion, Cond.selects RX6 yX6_rateOfVersion yX6_rateOfVersion, Cond.code yX6_rateOfVersion cX6_rateOfVersion 5 (some .int), Cond.fieldLink RX6 152 "Backdater$Version" "covered" "Z", Cond.fieldLink RX6 222 "Backdater$Policy" "base" "I", Cond.fieldLink RX6 22 "Backdater" "tariffs" "LBackdater$Tariffs;", Cond.methodLink RX6 148 yX4_valueOf, Cond.methodLink RX6 225 yX3_weightOn]
def wsL_premium_r6 : List Cond := [Cond.instanceMethod yX3_weightOn, Cond.selects RX3 yX3_weightOn yX3_weightOn, Cond.initialized RX3, Cond.code yX3_weightOn cX3_weightOn 3 (some .int), Cond.fieldLink RX3 11 "Backdater$Tariffs" "weights" "[[I", Cond.static yX6_isDay, Cond.code yX6_isDay cX6_isDay 1 (some .boolean), Cond.methodLink RX6 228 yX5_putRate, Cond.instanceMethod yX5_putRate, Cond.selects RX5 yX5_putRate yX5_putRate, Cond.initialized RX5, Cond.code yX5_putRate cX5_putRate 3 none, Cond.fieldLink RX5 9 "Backdater$Year" "rates" "[I", Cond.fieldLink RX5 15 "Backdater$Year" "sums" "[I", Cond.methodLink RX6 237 yX5_sumOfPremiums, Cond.instanceMethod yX5_sumOfPremiums, Cond.selects RX5 yX5_sumOfPremiums yX5_sumOfPremiums, Cond.code yX5_sumOfPremiums cX5_sumOfPremiums 3 (some .int), Cond.methodLink RX5 22 yX5_isStart, Cond.instanceMethod yX5_isStart, Cond.selects RX5 yX5_isStart yX5_isStart, Cond.code yX5_isStart cX5_isStart 2 (some .boolean), Cond.methodLink RX5 32 yX5_premiumOfSegmentFrom, Cond.instanceMethod yX5_premiumOfSegmentFrom]
def wsL_premium_r7 : List Cond := [Cond.selects RX5 yX5_premiumOfSegmentFrom yX5_premiumOfSegmentFrom, Cond.code yX5_premiumOfSegmentFrom cX5_premiumOfSegmentFrom 2 (some .int), Cond.methodLink RX5 25 yX5_dayBehindSegmentFrom, Cond.instanceMethod yX5_dayBehindSegmentFrom, Cond.selects RX5 yX5_dayBehindSegmentFrom yX5_dayBehindSegmentFrom, Cond.code yX5_dayBehindSegmentFrom cX5_dayBehindSegmentFrom 3 (some .int), Cond.methodLink RX5 29 yX5_chargeUpTo, Cond.instanceMethod yX5_chargeUpTo, Cond.selects RX5 yX5_chargeUpTo yX5_chargeUpTo, Cond.code yX5_chargeUpTo cX5_chargeUpTo 2 (some .int)]
def wsL_premium : List Cond := .codeWith yL_premium cL_premium 5 (some .int) [(0, 10, 13, 21), (0, 10, 17, 13)] :: ((wsL_premium_r1 ++ (wsL_premium_r2 ++ (wsL_premium_r3 ++ (wsL_premium_r4 ++ (wsL_premium_r5 ++ (wsL_premium_r6 ++ wsL_premium_r7)))))) ++ wsX60 ++ wsJx4a65c0 ++ wsX40 ++ wsX20 ++ wsX00 ++ wsX30 ++ wsX50 ++ (vx_atS RX6 192 "java/lang/IndexOutOfBoundsException" ["java/lang/RuntimeException", "java/lang/Exception"]).filter goodWord ++ (vx_atS RX6 184 "java/lang/IllegalArgumentException" ["java/lang/RuntimeException", "java/lang/Exception"]).filter goodWord)
def wsL_premiumByDays_r1 : List Cond := [Cond.classLink RL 21 "java/lang/IndexOutOfBoundsException", Cond.classLink RL 13 "java/lang/IllegalArgumentException", Cond.methodLink RL 68 yX6_premiumByDays, Cond.instanceMethod yX6_premiumByDays, Cond.selects RX6 yX6_premiumByDays yX6_premiumByDays, Cond.initialized RX6, Cond.code yX6_premiumByDays cX6_premiumByDays 6 (some .int), Cond.methodLink RX6 84 yX6_policyNumbered, Cond.instanceMethod yX6_policyNumbered, Cond.selects RX6 yX6_policyNumbered yX6_policyNumbered, Cond.code yX6_policyNumbered cX6_policyNumbered 2 (some (.object "Backdater$Policy")), Cond.classLink RX6 188 "java/lang/IndexOutOfBoundsException", Cond.initialized "java/lang/IndexOutOfBoundsException", Cond.fieldLink RX6 10 "Backdater" "policies" "Ljava/util/List;", Cond.classLink RX6 61 "Backdater$Policy", Cond.methodLink RX6 48 ⟨"java/util/List", "size", "()I"⟩, Cond.selects RJx4a65c ⟨"java/util/List", "size", "()I"⟩ yJx4a65c_size_8abf5, Cond.instanceMethod yJx4a65c_size_8abf5, Cond.initialized RJx4a65c, Cond.code yJx4a65c_size_8abf5 cJx4a65c_size_8abf5 1 (some .int), Cond.fieldLink RJx4a65c 48 "java/util/ArrayList" "size" "I", Cond.methodLink RX6 127 ⟨"java/util/List", "get", "(I)Ljava/lang/Object;"⟩, Cond.selects RJx4a65c ⟨"java/util/List", "get", "(I)Ljava/lang/Object;"⟩ yJx4a65c_get_915e3, Cond.instanceMethod yJx4a65c_get_915e3]
def wsL_premiumByDays_r2 : List Cond := [Cond.code yJx4a65c_get_915e3 cJx4a65c_get_915e3 2 (some (.object "java/lang/Object")), Cond.methodLink RJx4a65c 118 yJ15_checkIndex_7cf53, Cond.static yJ15_checkIndex_7cf53, Cond.initialized RJ15, Cond.code yJ15_checkIndex_7cf53 cJ15_checkIndex_7cf53 2 (some .int), Cond.methodLink RJ15 105 yJ3_checkIndex_8e157, Cond.static yJ3_checkIndex_8e157, Cond.initialized RJ3, Cond.code yJ3_checkIndex_8e157 cJ3_checkIndex_8e157 3 (some .int), Cond.methodLink RJx4a65c 123 yJx4a65c_elementData_915e3, Cond.instanceMethod yJx4a65c_elementData_915e3, Cond.selects RJx4a65c yJx4a65c_elementData_915e3 yJx4a65c_elementData_915e3, Cond.code yJx4a65c_elementData_915e3 cJx4a65c_elementData_915e3 2 (some (.object "java/lang/Object")), Cond.fieldLink RJx4a65c 9 "java/util/ArrayList" "elementData" "[Ljava/lang/Object;", Cond.methodLink RX6 141 yX6_demandKnown, Cond.instanceMethod yX6_demandKnown, Cond.selects RX6 yX6_demandKnown yX6_demandKnown, Cond.code yX6_demandKnown cX6_demandKnown 2 none, Cond.fieldLink RX6 40 "Backdater" "currentDay" "I", Cond.methodLink RX6 44 yX6_demandWithin, Cond.static yX6_demandWithin, Cond.code yX6_demandWithin cX6_demandWithin 3 none, Cond.classLink RX6 180 "java/lang/IllegalArgumentException", Cond.initialized "java/lang/IllegalArgumentException"]
def wsL_premiumByDays_r3 : List Cond := [Cond.methodLink RX6 144 yX6_layVersion, Cond.instanceMethod yX6_layVersion, Cond.selects RX6 yX6_layVersion yX6_layVersion, Cond.code yX6_layVersion cX6_layVersion 4 none, Cond.fieldLink RX6 29 "Backdater" "version" "LBackdater$Version;", Cond.methodLink RX6 206 yX4_begin, Cond.instanceMethod yX4_begin, Cond.selects RX4 yX4_begin yX4_begin, Cond.initialized RX4, Cond.code yX4_begin cX4_begin 1 none, Cond.fieldLink RX4 9 "Backdater$Version" "values" "[I", Cond.fieldLink RX4 15 "Backdater$Version" "covered" "Z", Cond.methodLink RX4 19 yJ7_fill_53178, Cond.static yJ7_fill_53178, Cond.initialized RJ7, Cond.code yJ7_fill_53178 cJ7_fill_53178 4 none, Cond.methodLink RX6 209 yX6_layInFrom, Cond.instanceMethod yX6_layInFrom, Cond.selects RX6 yX6_layInFrom yX6_layInFrom, Cond.code yX6_layInFrom cX6_layInFrom 8 (some .int), Cond.fieldLink RX6 124 "Backdater$Policy" "inOrder" "Ljava/util/List;", Cond.methodLink RX6 213 Lib.Math.max.name, Cond.static Lib.Math.max.name, Cond.initialized "java/lang/Math"]
def wsL_premiumByDays_r4 : List Cond := [Cond.code Lib.Math.max.name Lib.Math.max.code 2 (some .int), Cond.classLink RX6 111 "Backdater$Change", Cond.fieldLink RX6 134 "Backdater$Change" "from" "I", Cond.methodLink RX6 137 yX0_isKnownOn, Cond.instanceMethod yX0_isKnownOn, Cond.selects RX0 yX0_isKnownOn yX0_isKnownOn, Cond.initialized RX0, Cond.code yX0_isKnownOn cX0_isKnownOn 2 (some .boolean), Cond.fieldLink RX0 35 "Backdater$Change" "toldOn" "I", Cond.fieldLink RX0 9 "Backdater$Change" "takenBackOn" "I", Cond.methodLink RX6 219 yX4_layIn, Cond.instanceMethod yX4_layIn, Cond.selects RX4 yX4_layIn yX4_layIn, Cond.code yX4_layIn cX4_layIn 3 none, Cond.fieldLink RX4 25 "Backdater$Change" "kind" "LBackdater$Kind;", Cond.fieldLink RX4 31 "Backdater$Kind" "SET" "LBackdater$Kind;", Cond.fieldLink RX4 36 "Backdater$Change" "field" "I", Cond.fieldLink RX4 40 "Backdater$Change" "amount" "I", Cond.fieldLink RX4 47 "Backdater$Kind" "ADD" "LBackdater$Kind;", Cond.methodLink RX4 54 Lib.Math.max.name, Cond.methodLink RX4 60 Lib.Math.min.name, Cond.static Lib.Math.min.name, Cond.code Lib.Math.min.name Lib.Math.min.code 2 (some .int), Cond.fieldLink RX4 63 "Backdater$Kind" "REINSTATE" "LBackdater$Kind;"]
def wsL_premiumByDays_r5 : List Cond := [Cond.methodLink RX4 43 yX4_putValue, Cond.instanceMethod yX4_putValue, Cond.selects RX4 yX4_putValue yX4_putValue, Cond.code yX4_putValue cX4_putValue 3 none, Cond.static yX6_isField, Cond.code yX6_isField cX6_isField 1 (some .boolean), Cond.methodLink RX4 50 yX4_valueOf, Cond.instanceMethod yX4_valueOf, Cond.selects RX4 yX4_valueOf yX4_valueOf, Cond.code yX4_valueOf cX4_valueOf 2 (some .int), Cond.methodLink RX6 156 yX6_rateOfVersion, Cond.instanceMethod yX6_rateOfVersion, Cond.selects RX6 yX6_rateOfVersion yX6_rateOfVersion, Cond.code yX6_rateOfVersion cX6_rateOfVersion 5 (some .int), Cond.fieldLink RX6 152 "Backdater$Version" "covered" "Z", Cond.fieldLink RX6 222 "Backdater$Policy" "base" "I", Cond.fieldLink RX6 22 "Backdater" "tariffs" "LBackdater$Tariffs;", Cond.methodLink RX6 148 yX4_valueOf, Cond.methodLink RX6 225 yX3_weightOn, Cond.instanceMethod yX3_weightOn, Cond.selects RX3 yX3_weightOn yX3_weightOn, Cond.initialized RX3, Cond.code yX3_weightOn cX3_weightOn 3 (some .int), Cond.fieldLink RX3 11 "Backdater$Tariffs" "weights" "[[I"]
def wsL_premiumByDays_r6 : List Cond := [Cond.static yX6_isDay, Cond.code yX6_isDay cX6_isDay 1 (some .boolean)]
def wsL_premiumByDays : List Cond := .codeWith yL_premiumByDays cL_premiumByDays 5 (some .int) [(0, 10, 13, 21), (0, 10, 17, 13)] :: ((wsL_premiumByDays_r1 ++ (wsL_premiumByDays_r2 ++ (wsL_premiumByDays_r3 ++ (wsL_premiumByDays_r4 ++ (wsL_premiumByDays_r5 ++ wsL_premiumByDays_r6))))) ++ wsX60 ++ wsJx4a65c0 ++ wsX40 ++ wsX20 ++ wsX00 ++ wsX30 ++ (vx_atS RX6 192 "java/lang/IndexOutOfBoundsException" ["java/lang/RuntimeException", "java/lang/Exception"]).filter goodWord ++ (vx_atS RX6 184 "java/lang/IllegalArgumentException" ["java/lang/RuntimeException", "java/lang/Exception"]).filter goodWord)
def wsL_bill_r1 : List Cond := [Cond.classLink RL 21 "java/lang/IndexOutOfBoundsException", Cond.methodLink RL 71 yX6_bill, Cond.instanceMethod yX6_bill, Cond.selects RX6 yX6_bill yX6_bill, Cond.initialized RX6, Cond.code yX6_bill cX6_bill 4 (some .int), Cond.fieldLink RX6 40 "Backdater" "currentDay" "I", Cond.fieldLink RX6 177 "Backdater$Policy" "billedSoFar" "I", Cond.methodLink RX6 84 yX6_policyNumbered, Cond.instanceMethod yX6_policyNumbered, Cond.selects RX6 yX6_policyNumbered yX6_policyNumbered, Cond.code yX6_policyNumbered cX6_policyNumbered 2 (some (.object "Backdater$Policy")), Cond.classLink RX6 188 "java/lang/IndexOutOfBoundsException", Cond.initialized "java/lang/IndexOutOfBoundsException", Cond.fieldLink RX6 10 "Backdater" "policies" "Ljava/util/List;", Cond.classLink RX6 61 "Backdater$Policy", Cond.methodLink RX6 48 ⟨"java/util/List", "size", "()I"⟩, Cond.selects RJx4a65c ⟨"java/util/List", "size", "()I"⟩ yJx4a65c_size_8abf5, Cond.instanceMethod yJx4a65c_size_8abf5, Cond.initialized RJx4a65c, Cond.code yJx4a65c_size_8abf5 cJx4a65c_size_8abf5 1 (some .int), Cond.fieldLink RJx4a65c 48 "java/util/ArrayList" "size" "I", Cond.methodLink RX6 127 ⟨"java/util/List", "get", "(I)Ljava/lang/Object;"⟩, Cond.selects RJx4a65c ⟨"java/util/List", "get", "(I)Ljava/lang/Object;"⟩ yJx4a65c_get_915e3]
def wsL_bill_r2 : List Cond := [Cond.instanceMethod yJx4a65c_get_915e3, Cond.code yJx4a65c_get_915e3 cJx4a65c_get_915e3 2 (some (.object "java/lang/Object")), Cond.methodLink RJx4a65c 118 yJ15_checkIndex_7cf53, Cond.static yJ15_checkIndex_7cf53, Cond.initialized RJ15, Cond.code yJ15_checkIndex_7cf53 cJ15_checkIndex_7cf53 2 (some .int), Cond.methodLink RJ15 105 yJ3_checkIndex_8e157, Cond.static yJ3_checkIndex_8e157, Cond.initialized RJ3, Cond.code yJ3_checkIndex_8e157 cJ3_checkIndex_8e157 3 (some .int), Cond.methodLink RJx4a65c 123 yJx4a65c_elementData_915e3, Cond.instanceMethod yJx4a65c_elementData_915e3, Cond.selects RJx4a65c yJx4a65c_elementData_915e3 yJx4a65c_elementData_915e3, Cond.code yJx4a65c_elementData_915e3 cJx4a65c_elementData_915e3 2 (some (.object "java/lang/Object")), Cond.fieldLink RJx4a65c 9 "java/util/ArrayList" "elementData" "[Ljava/lang/Object;", Cond.methodLink RX6 174 yX6_premiumBySegments, Cond.instanceMethod yX6_premiumBySegments, Cond.selects RX6 yX6_premiumBySegments yX6_premiumBySegments, Cond.code yX6_premiumBySegments cX6_premiumBySegments 3 (some .int), Cond.fieldLink RX6 36 "Backdater" "year" "LBackdater$Year;", Cond.methodLink RX6 160 yX6_layYear, Cond.instanceMethod yX6_layYear, Cond.selects RX6 yX6_layYear yX6_layYear, Cond.code yX6_layYear cX6_layYear 5 none]
def wsL_bill_r3 : List Cond := [Cond.fieldLink RX6 29 "Backdater" "version" "LBackdater$Version;", Cond.methodLink RX6 206 yX4_begin, Cond.instanceMethod yX4_begin, Cond.selects RX4 yX4_begin yX4_begin, Cond.initialized RX4, Cond.code yX4_begin cX4_begin 1 none, Cond.fieldLink RX4 9 "Backdater$Version" "values" "[I", Cond.fieldLink RX4 15 "Backdater$Version" "covered" "Z", Cond.methodLink RX4 19 yJ7_fill_53178, Cond.static yJ7_fill_53178, Cond.initialized RJ7, Cond.code yJ7_fill_53178 cJ7_fill_53178 4 none, Cond.methodLink RX6 209 yX6_layInFrom, Cond.instanceMethod yX6_layInFrom, Cond.selects RX6 yX6_layInFrom yX6_layInFrom, Cond.code yX6_layInFrom cX6_layInFrom 8 (some .int), Cond.fieldLink RX6 124 "Backdater$Policy" "inOrder" "Ljava/util/List;", Cond.methodLink RX6 213 Lib.Math.max.name, Cond.static Lib.Math.max.name, Cond.initialized "java/lang/Math", Cond.code Lib.Math.max.name Lib.Math.max.code 2 (some .int), Cond.classLink RX6 111 "Backdater$Change", Cond.fieldLink RX6 134 "Backdater$Change" "from" "I", Cond.methodLink RX6 137 yX0_isKnownOn]
def wsL_bill_r4 : List Cond := [Cond.instanceMethod yX0_isKnownOn, Cond.selects RX0 yX0_isKnownOn yX0_isKnownOn, Cond.initialized RX0, Cond.code yX0_isKnownOn cX0_isKnownOn 2 (some .boolean), Cond.fieldLink RX0 35 "Backdater$Change" "toldOn" "I", Cond.fieldLink RX0 9 "Backdater$Change" "takenBackOn" "I", Cond.methodLink RX6 219 yX4_layIn, Cond.instanceMethod yX4_layIn, Cond.selects RX4 yX4_layIn yX4_layIn, Cond.code yX4_layIn cX4_layIn 3 none, Cond.fieldLink RX4 25 "Backdater$Change" "kind" "LBackdater$Kind;", Cond.fieldLink RX4 31 "Backdater$Kind" "SET" "LBackdater$Kind;", Cond.fieldLink RX4 36 "Backdater$Change" "field" "I", Cond.fieldLink RX4 40 "Backdater$Change" "amount" "I", Cond.fieldLink RX4 47 "Backdater$Kind" "ADD" "LBackdater$Kind;", Cond.methodLink RX4 54 Lib.Math.max.name, Cond.methodLink RX4 60 Lib.Math.min.name, Cond.static Lib.Math.min.name, Cond.code Lib.Math.min.name Lib.Math.min.code 2 (some .int), Cond.fieldLink RX4 63 "Backdater$Kind" "REINSTATE" "LBackdater$Kind;", Cond.methodLink RX4 43 yX4_putValue, Cond.instanceMethod yX4_putValue, Cond.selects RX4 yX4_putValue yX4_putValue, Cond.code yX4_putValue cX4_putValue 3 none]
def wsL_bill_r5 : List Cond := [Cond.static yX6_isField, Cond.code yX6_isField cX6_isField 1 (some .boolean), Cond.methodLink RX4 50 yX4_valueOf, Cond.instanceMethod yX4_valueOf, Cond.selects RX4 yX4_valueOf yX4_valueOf, Cond.code yX4_valueOf cX4_valueOf 2 (some .int), Cond.methodLink RX6 156 yX6_rateOfVersion, Cond.instanceMethod yX6_rateOfVersion, Cond.selects RX6 yX6_rateOfVersion yX6_rateOfVersion, Cond.code yX6_rateOfVersion cX6_rateOfVersion 5 (some .int), Cond.fieldLink RX6 152 "Backdater$Version" "covered" "Z", Cond.fieldLink RX6 222 "Backdater$Policy" "base" "I", Cond.fieldLink RX6 22 "Backdater" "tariffs" "LBackdater$Tariffs;", Cond.methodLink RX6 148 yX4_valueOf, Cond.methodLink RX6 225 yX3_weightOn, Cond.instanceMethod yX3_weightOn, Cond.selects RX3 yX3_weightOn yX3_weightOn, Cond.initialized RX3, Cond.code yX3_weightOn cX3_weightOn 3 (some .int), Cond.fieldLink RX3 11 "Backdater$Tariffs" "weights" "[[I", Cond.static yX6_isDay, Cond.code yX6_isDay cX6_isDay 1 (some .boolean), Cond.methodLink RX6 228 yX5_putRate, Cond.instanceMethod yX5_putRate]
def wsL_bill_r6 : List Cond := [Cond.selects RX5 yX5_putRate yX5_putRate, Cond.initialized RX5, Cond.code yX5_putRate cX5_putRate 3 none, Cond.fieldLink RX5 9 "Backdater$Year" "rates" "[I", Cond.fieldLink RX5 15 "Backdater$Year" "sums" "[I", Cond.methodLink RX6 237 yX5_sumOfPremiums, Cond.instanceMethod yX5_sumOfPremiums, Cond.selects RX5 yX5_sumOfPremiums yX5_sumOfPremiums, Cond.code yX5_sumOfPremiums cX5_sumOfPremiums 3 (some .int), Cond.methodLink RX5 22 yX5_isStart, Cond.instanceMethod yX5_isStart, Cond.selects RX5 yX5_isStart yX5_isStart, Cond.code yX5_isStart cX5_isStart 2 (some .boolean), Cond.methodLink RX5 32 yX5_premiumOfSegmentFrom, Cond.instanceMethod yX5_premiumOfSegmentFrom, Cond.selects RX5 yX5_premiumOfSegmentFrom yX5_premiumOfSegmentFrom, Cond.code yX5_premiumOfSegmentFrom cX5_premiumOfSegmentFrom 2 (some .int), Cond.methodLink RX5 25 yX5_dayBehindSegmentFrom, Cond.instanceMethod yX5_dayBehindSegmentFrom, Cond.selects RX5 yX5_dayBehindSegmentFrom yX5_dayBehindSegmentFrom, Cond.code yX5_dayBehindSegmentFrom cX5_dayBehindSegmentFrom 3 (some .int), Cond.methodLink RX5 29 yX5_chargeUpTo, Cond.instanceMethod yX5_chargeUpTo, Cond.selects RX5 yX5_chargeUpTo yX5_chargeUpTo]
def wsL_bill_r7 : List Cond := [Cond.code yX5_chargeUpTo cX5_chargeUpTo 2 (some .int)]
def wsL_bill : List Cond := .codeWith yL_bill cL_bill 4 (some .int) [(0, 9, 12, 21)] :: ((wsL_bill_r1 ++ (wsL_bill_r2 ++ (wsL_bill_r3 ++ (wsL_bill_r4 ++ (wsL_bill_r5 ++ (wsL_bill_r6 ++ wsL_bill_r7)))))) ++ wsX60 ++ wsX20 ++ wsJx4a65c0 ++ wsX40 ++ wsX00 ++ wsX30 ++ wsX50 ++ (vx_atS RX6 192 "java/lang/IndexOutOfBoundsException" ["java/lang/RuntimeException", "java/lang/Exception"]).filter goodWord)
def wsL_billed_r1 : List Cond := [Cond.classLink RL 21 "java/lang/IndexOutOfBoundsException", Cond.methodLink RL 74 yX6_billed, Cond.instanceMethod yX6_billed, Cond.selects RX6 yX6_billed yX6_billed, Cond.initialized RX6, Cond.code yX6_billed cX6_billed 2 (some .int), Cond.fieldLink RX6 177 "Backdater$Policy" "billedSoFar" "I", Cond.methodLink RX6 84 yX6_policyNumbered, Cond.instanceMethod yX6_policyNumbered, Cond.selects RX6 yX6_policyNumbered yX6_policyNumbered, Cond.code yX6_policyNumbered cX6_policyNumbered 2 (some (.object "Backdater$Policy")), Cond.classLink RX6 188 "java/lang/IndexOutOfBoundsException", Cond.initialized "java/lang/IndexOutOfBoundsException", Cond.fieldLink RX6 10 "Backdater" "policies" "Ljava/util/List;", Cond.classLink RX6 61 "Backdater$Policy", Cond.methodLink RX6 48 ⟨"java/util/List", "size", "()I"⟩, Cond.selects RJx4a65c ⟨"java/util/List", "size", "()I"⟩ yJx4a65c_size_8abf5, Cond.instanceMethod yJx4a65c_size_8abf5, Cond.initialized RJx4a65c, Cond.code yJx4a65c_size_8abf5 cJx4a65c_size_8abf5 1 (some .int), Cond.fieldLink RJx4a65c 48 "java/util/ArrayList" "size" "I", Cond.methodLink RX6 127 ⟨"java/util/List", "get", "(I)Ljava/lang/Object;"⟩, Cond.selects RJx4a65c ⟨"java/util/List", "get", "(I)Ljava/lang/Object;"⟩ yJx4a65c_get_915e3, Cond.instanceMethod yJx4a65c_get_915e3]
def wsL_billed_r2 : List Cond := [Cond.code yJx4a65c_get_915e3 cJx4a65c_get_915e3 2 (some (.object "java/lang/Object")), Cond.methodLink RJx4a65c 118 yJ15_checkIndex_7cf53, Cond.static yJ15_checkIndex_7cf53, Cond.initialized RJ15, Cond.code yJ15_checkIndex_7cf53 cJ15_checkIndex_7cf53 2 (some .int), Cond.methodLink RJ15 105 yJ3_checkIndex_8e157, Cond.static yJ3_checkIndex_8e157, Cond.initialized RJ3, Cond.code yJ3_checkIndex_8e157 cJ3_checkIndex_8e157 3 (some .int), Cond.methodLink RJx4a65c 123 yJx4a65c_elementData_915e3, Cond.instanceMethod yJx4a65c_elementData_915e3, Cond.selects RJx4a65c yJx4a65c_elementData_915e3 yJx4a65c_elementData_915e3, Cond.code yJx4a65c_elementData_915e3 cJx4a65c_elementData_915e3 2 (some (.object "java/lang/Object")), Cond.fieldLink RJx4a65c 9 "java/util/ArrayList" "elementData" "[Ljava/lang/Object;"]
def wsL_billed : List Cond := .codeWith yL_billed cL_billed 4 (some .int) [(0, 9, 12, 21)] :: ((wsL_billed_r1 ++ wsL_billed_r2) ++ wsX20 ++ wsX60 ++ wsJx4a65c0 ++ (vx_atS RX6 192 "java/lang/IndexOutOfBoundsException" ["java/lang/RuntimeException", "java/lang/Exception"]).filter goodWord)
def wsL_law0_r1 : List Cond := [Cond.classLink RL 8 RX6, Cond.instantiable RX6 6, Cond.initialized RX6, Cond.classLink RL 78 RX7, Cond.instantiable RX7 21, Cond.initialized RX7, Cond.arrayClass .long, Cond.methodLink RL 77 yX6_init, Cond.instanceMethod yX6_init, Cond.code yX6_init cX6_init 1 none, Cond.methodLink RX6 1 objectInit, Cond.instanceMethod objectInit, Cond.code objectInit ⟨#[0xb1]⟩ 1 none, Cond.classLink RX6 7 RJx4a65c, Cond.instantiable RJx4a65c 3, Cond.initialized RJx4a65c, Cond.fieldLink RX6 10 "Backdater" "policies" "Ljava/util/List;", Cond.fieldLink RX6 16 "Backdater" "told" "Ljava/util/List;", Cond.classLink RX6 19 RX3, Cond.instantiable RX3 3, Cond.initialized RX3, Cond.fieldLink RX6 22 "Backdater" "tariffs" "LBackdater$Tariffs;", Cond.classLink RX6 26 RX4, Cond.instantiable RX4 2]
def wsL_law0_r2 : List Cond := [Cond.initialized RX4, Cond.fieldLink RX6 29 "Backdater" "version" "LBackdater$Version;", Cond.classLink RX6 33 RX5, Cond.instantiable RX5 2, Cond.initialized RX5, Cond.fieldLink RX6 36 "Backdater" "year" "LBackdater$Year;", Cond.fieldLink RX6 40 "Backdater" "currentDay" "I", Cond.methodLink RX6 9 yJx4a65c_init_da8c8, Cond.instanceMethod yJx4a65c_init_da8c8, Cond.code yJx4a65c_init_da8c8 cJx4a65c_init_da8c8 1 none, Cond.fieldLink RJx4a65c 39 "java/util/ArrayList" "DEFAULTCAPACITY_EMPTY_ELEMENTDATA" "[Ljava/lang/Object;", Cond.fieldLink RJx4a65c 9 "java/util/ArrayList" "elementData" "[Ljava/lang/Object;", Cond.methodLink RJx4a65c 1 yJxc12de_init_da8c8, Cond.instanceMethod yJxc12de_init_da8c8, Cond.initialized RJxc12de, Cond.code yJxc12de_init_da8c8 cJxc12de_init_da8c8 1 none, Cond.fieldLink RJxc12de 7 "java/util/AbstractList" "modCount" "I", Cond.methodLink RJxc12de 1 yJxa1e45_init_da8c8, Cond.instanceMethod yJxa1e45_init_da8c8, Cond.initialized RJxa1e45, Cond.code yJxa1e45_init_da8c8 cJxa1e45_init_da8c8 1 none, Cond.methodLink RJxa1e45 1 objectInit, Cond.methodLink RX6 21 yX3_init, Cond.instanceMethod yX3_init]
def wsL_law0_r3 : List Cond := [Cond.code yX3_init cX3_init 2 none, Cond.methodLink RX3 3 objectInit, Cond.classLink RX3 9 "[[I", Cond.arrayClass .int, Cond.fieldLink RX3 11 "Backdater$Tariffs" "weights" "[[I", Cond.fieldLink RX3 16 "Backdater$Tariffs" "since" "[[I", Cond.fieldLink RX3 19 "Backdater$Tariffs" "count" "I", Cond.methodLink RX3 23 yJ7_fill_53178, Cond.static yJ7_fill_53178, Cond.initialized RJ7, Cond.code yJ7_fill_53178 cJ7_fill_53178 4 none, Cond.instanceMethod yX4_init, Cond.code yX4_init cX4_init 1 none, Cond.methodLink RX4 3 objectInit, Cond.fieldLink RX4 9 "Backdater$Version" "values" "[I", Cond.fieldLink RX4 15 "Backdater$Version" "covered" "Z", Cond.instanceMethod yX5_init, Cond.code yX5_init cX5_init 1 none, Cond.methodLink RX5 3 objectInit, Cond.fieldLink RX5 9 "Backdater$Year" "rates" "[I", Cond.fieldLink RX5 15 "Backdater$Year" "sums" "[I", Cond.methodLink RL 80 yX7_init, Cond.instanceMethod yX7_init, Cond.code yX7_init cX7_init 1 none]
def wsL_law0_r4 : List Cond := [Cond.methodLink RX7 1 objectInit, Cond.fieldLink RX7 7 "BackdaterModel" "base" "[I", Cond.fieldLink RX7 13 "BackdaterModel" "paid" "[I", Cond.fieldLink RX7 16 "BackdaterModel" "field" "[I", Cond.fieldLink RX7 19 "BackdaterModel" "weight" "[I", Cond.fieldLink RX7 22 "BackdaterModel" "since" "[I", Cond.fieldLink RX7 25 "BackdaterModel" "of" "[I", Cond.fieldLink RX7 28 "BackdaterModel" "kind" "[I", Cond.fieldLink RX7 31 "BackdaterModel" "which" "[I", Cond.fieldLink RX7 34 "BackdaterModel" "from" "[I", Cond.fieldLink RX7 37 "BackdaterModel" "number" "[I", Cond.fieldLink RX7 40 "BackdaterModel" "told" "[I", Cond.fieldLink RX7 43 "BackdaterModel" "taken" "[I", Cond.fieldLink RX7 46 "BackdaterModel" "value" "[I", Cond.arrayClass .boolean, Cond.fieldLink RX7 49 "BackdaterModel" "covered" "[Z", Cond.fieldLink RX7 53 "BackdaterModel" "rate" "[I", Cond.fieldLink RX7 56 "BackdaterModel" "sum" "[I", Cond.methodLink RL 81 yL_open, Cond.static yL_open, Cond.initialized RL, Cond.codeWith yL_open cL_open 4 (some .int) [(0, 9, 12, 13), (0, 9, 15, 15)], Cond.classLink RL 13 "java/lang/IllegalArgumentException", Cond.classLink RL 15 "java/lang/IllegalStateException"]
def wsL_law0_r5 : List Cond := [Cond.methodLink RL 7 yX6_open, Cond.instanceMethod yX6_open, Cond.selects RX6 yX6_open yX6_open, Cond.code yX6_open cX6_open 2 (some .int), Cond.classLink RX6 54 "java/lang/IllegalStateException", Cond.initialized "java/lang/IllegalStateException", Cond.classLink RX6 61 RX2, Cond.instantiable RX2 3, Cond.initialized RX2, Cond.methodLink RX6 44 yX6_demandWithin, Cond.static yX6_demandWithin, Cond.code yX6_demandWithin cX6_demandWithin 3 none, Cond.classLink RX6 180 "java/lang/IllegalArgumentException", Cond.initialized "java/lang/IllegalArgumentException", Cond.methodLink RX6 48 ⟨"java/util/List", "size", "()I"⟩, Cond.selects RJx4a65c ⟨"java/util/List", "size", "()I"⟩ yJx4a65c_size_8abf5, Cond.instanceMethod yJx4a65c_size_8abf5, Cond.code yJx4a65c_size_8abf5 cJx4a65c_size_8abf5 1 (some .int), Cond.fieldLink RJx4a65c 48 "java/util/ArrayList" "size" "I", Cond.methodLink RX6 63 yX2_init, Cond.instanceMethod yX2_init, Cond.code yX2_init cX2_init 2 none, Cond.methodLink RX2 1 objectInit, Cond.classLink RX2 7 RJx4a65c]
def wsL_law0_r6 : List Cond := [Cond.fieldLink RX2 10 "Backdater$Policy" "inOrder" "Ljava/util/List;", Cond.fieldLink RX2 16 "Backdater$Policy" "billedSoFar" "I", Cond.fieldLink RX2 20 "Backdater$Policy" "base" "I", Cond.methodLink RX2 9 yJx4a65c_init_da8c8, Cond.methodLink RX6 66 ⟨"java/util/List", "add", "(Ljava/lang/Object;)Z"⟩, Cond.selects RJx4a65c ⟨"java/util/List", "add", "(Ljava/lang/Object;)Z"⟩ yJx4a65c_add_9ea2d, Cond.instanceMethod yJx4a65c_add_9ea2d, Cond.code yJx4a65c_add_9ea2d cJx4a65c_add_9ea2d 2 (some .boolean), Cond.fieldLink RJx4a65c 63 "java/util/ArrayList" "modCount" "I", Cond.sameField "java/util/ArrayList" "java/util/AbstractList" "modCount" "I", Cond.methodLink RJx4a65c 131 yJx4a65c_add_72be8, Cond.instanceMethod yJx4a65c_add_72be8, Cond.selects RJx4a65c yJx4a65c_add_72be8 yJx4a65c_add_72be8, Cond.code yJx4a65c_add_72be8 cJx4a65c_add_72be8 4 none, Cond.methodLink RJx4a65c 129 yJx4a65c_grow_d5877, Cond.instanceMethod yJx4a65c_grow_d5877, Cond.selects RJx4a65c yJx4a65c_grow_d5877 yJx4a65c_grow_d5877, Cond.code yJx4a65c_grow_d5877 cJx4a65c_grow_d5877 1 (some (.array (.object "java/lang/Object"))), Cond.methodLink RJx4a65c 69 yJx4a65c_grow_92f84, Cond.instanceMethod yJx4a65c_grow_92f84, Cond.selects RJx4a65c yJx4a65c_grow_92f84 yJx4a65c_grow_92f84, Cond.code yJx4a65c_grow_92f84 cJx4a65c_grow_92f84 4 (some (.array (.object "java/lang/Object"))), Cond.methodLink RJx4a65c 79 Lib.Math.max.name, Cond.static Lib.Math.max.name]
def wsL_law0_r7 : List Cond := [Cond.initialized "java/lang/Math", Cond.code Lib.Math.max.name Lib.Math.max.code 2 (some .int), Cond.classLink RJx4a65c 7 "java/lang/Object", Cond.methodLink RJx4a65c 73 yJ8_newLength_cabcc, Cond.static yJ8_newLength_cabcc, Cond.initialized RJ8, Cond.code yJ8_newLength_cabcc cJ8_newLength_cabcc 4 (some .int), Cond.methodLink RJ8 194 Lib.Math.max.name, Cond.constant RJ8 200 (2147483639), Cond.methodLink RJ8 201 yJ8_hugeLength_7cf53, Cond.static yJ8_hugeLength_7cf53, Cond.code yJ8_hugeLength_7cf53 cJ8_hugeLength_7cf53 3 (some .int), Cond.methodLink RJx4a65c 66 yJ7_copyOf_1904c, Cond.static yJ7_copyOf_1904c, Cond.code yJ7_copyOf_1904c cJ7_copyOf_1904c 2 (some (.array (.object "java/lang/Object"))), Cond.methodLink RJ7 86 ⟨"java/lang/Object", "getClass", "()Ljava/lang/Class;"⟩, Cond.selects "[Ljava/lang/Object;" ⟨"java/lang/Object", "getClass", "()Ljava/lang/Class;"⟩ ⟨"java/lang/Object", "getClass", "()Ljava/lang/Class;"⟩, Cond.instanceMethod ⟨"java/lang/Object", "getClass", "()Ljava/lang/Class;"⟩, Cond.native ⟨"java/lang/Object", "getClass", "()Ljava/lang/Class;"⟩, Cond.methodLink RJ7 300 yJ7_copyOf_6403c, Cond.static yJ7_copyOf_6403c, Cond.code yJ7_copyOf_6403c cJ7_copyOf_6403c 4 (some (.array (.object "java/lang/Object"))), Cond.classLink RJ7 110 "[Ljava/lang/Object;", Cond.classLink RJ7 2 "java/lang/Object"]
def wsL_law0_r8 : List Cond := [Cond.methodLink RJ7 304 Lib.Math.min.name, Cond.static Lib.Math.min.name, Cond.code Lib.Math.min.name Lib.Math.min.code 2 (some .int), Cond.methodLink RJ7 150 arraycopyName, Cond.native arraycopyName, Cond.static arraycopyName, Cond.initialized "java/lang/System", Cond.methodLink RL 86 yX7_open, Cond.instanceMethod yX7_open, Cond.selects RX7 yX7_open yX7_open, Cond.code yX7_open cX7_open 2 (some .int), Cond.fieldLink RX7 67 "BackdaterModel" "policies" "I", Cond.fieldLink RX7 59 "BackdaterModel" "thrown" "I", Cond.methodLink RX7 63 yX7_isIn, Cond.static yX7_isIn, Cond.code yX7_isIn cX7_isIn 3 (some .boolean), Cond.methodLink RL 87 yX7_thrown, Cond.instanceMethod yX7_thrown, Cond.selects RX7 yX7_thrown yX7_thrown, Cond.code yX7_thrown cX7_thrown 1 (some .int), Cond.methodLink RL 91 yL_setWeight, Cond.static yL_setWeight, Cond.codeWith yL_setWeight cL_setWeight 6 (some .int) [(0, 12, 15, 21), (0, 12, 19, 13), (0, 12, 23, 15)], Cond.classLink RL 21 "java/lang/IndexOutOfBoundsException"]
def wsL_law0_r9 : List Cond := [Cond.methodLink RL 17 yX6_setWeight, Cond.instanceMethod yX6_setWeight, Cond.selects RX6 yX6_setWeight yX6_setWeight, Cond.code yX6_setWeight cX6_setWeight 4 (some .int), Cond.fieldLink RX6 76 "Backdater$Tariffs" "count" "I", Cond.methodLink RX6 70 yX6_demandField, Cond.static yX6_demandField, Cond.code yX6_demandField cX6_demandField 1 none, Cond.classLink RX6 188 "java/lang/IndexOutOfBoundsException", Cond.initialized "java/lang/IndexOutOfBoundsException", Cond.methodLink RX6 185 yX6_isField, Cond.static yX6_isField, Cond.code yX6_isField cX6_isField 1 (some .boolean), Cond.methodLink RX6 73 yX6_demandDay, Cond.static yX6_demandDay, Cond.code yX6_demandDay cX6_demandDay 1 none, Cond.methodLink RX6 81 yX3_tell, Cond.instanceMethod yX3_tell, Cond.selects RX3 yX3_tell yX3_tell, Cond.code yX3_tell cX3_tell 5 none, Cond.methodLink RL 94 yX7_setWeight, Cond.instanceMethod yX7_setWeight, Cond.selects RX7 yX7_setWeight yX7_setWeight, Cond.code yX7_setWeight cX7_setWeight 4 (some .int)]
def wsL_law0_r10 : List Cond := [Cond.fieldLink RX7 77 "BackdaterModel" "tariffs" "I", Cond.methodLink RX7 70 yX7_isField, Cond.static yX7_isField, Cond.code yX7_isField cX7_isField 1 (some .boolean), Cond.methodLink RX7 74 yX7_isDay, Cond.static yX7_isDay, Cond.code yX7_isDay cX7_isDay 1 (some .boolean), Cond.methodLink RL 95 yL_pass, Cond.static yL_pass, Cond.codeWith yL_pass cL_pass 4 (some .int) [(0, 9, 12, 13)], Cond.methodLink RL 23 yX6_pass, Cond.instanceMethod yX6_pass, Cond.selects RX6 yX6_pass yX6_pass, Cond.code yX6_pass cX6_pass 2 (some .int), Cond.methodLink RL 97 yX7_pass, Cond.instanceMethod yX7_pass, Cond.selects RX7 yX7_pass yX7_pass, Cond.code yX7_pass cX7_pass 2 (some .int), Cond.fieldLink RX7 80 "BackdaterModel" "today" "I", Cond.methodLink RL 98 yX6_today, Cond.instanceMethod yX6_today, Cond.selects RX6 yX6_today yX6_today, Cond.code yX6_today cX6_today 1 (some .int), Cond.methodLink RL 101 yX7_today]
def wsL_law0_r11 : List Cond := [Cond.instanceMethod yX7_today, Cond.selects RX7 yX7_today yX7_today, Cond.code yX7_today cX7_today 1 (some .int), Cond.methodLink RL 102 yL_change, Cond.static yL_change, Cond.codeWith yL_change cL_change 7 (some .int) [(0, 14, 17, 21), (0, 14, 21, 13), (0, 14, 25, 15)], Cond.methodLink RL 26 yX6_change, Cond.instanceMethod yX6_change, Cond.selects RX6 yX6_change yX6_change, Cond.code yX6_change cX6_change 6 (some .int), Cond.fieldLink RX6 88 "Backdater$Kind" "SET" "LBackdater$Kind;", Cond.methodLink RX6 84 yX6_policyNumbered, Cond.instanceMethod yX6_policyNumbered, Cond.selects RX6 yX6_policyNumbered yX6_policyNumbered, Cond.code yX6_policyNumbered cX6_policyNumbered 2 (some (.object "Backdater$Policy")), Cond.classLink RX6 61 "Backdater$Policy", Cond.methodLink RX6 127 ⟨"java/util/List", "get", "(I)Ljava/lang/Object;"⟩, Cond.selects RJx4a65c ⟨"java/util/List", "get", "(I)Ljava/lang/Object;"⟩ yJx4a65c_get_915e3, Cond.instanceMethod yJx4a65c_get_915e3, Cond.code yJx4a65c_get_915e3 cJx4a65c_get_915e3 2 (some (.object "java/lang/Object")), Cond.methodLink RJx4a65c 118 yJ15_checkIndex_7cf53, Cond.static yJ15_checkIndex_7cf53, Cond.initialized RJ15, Cond.code yJ15_checkIndex_7cf53 cJ15_checkIndex_7cf53 2 (some .int)]
def wsL_law0_r12 : List Cond := [Cond.methodLink RJ15 105 yJ3_checkIndex_8e157, Cond.static yJ3_checkIndex_8e157, Cond.initialized RJ3, Cond.code yJ3_checkIndex_8e157 cJ3_checkIndex_8e157 3 (some .int), Cond.methodLink RJx4a65c 123 yJx4a65c_elementData_915e3, Cond.instanceMethod yJx4a65c_elementData_915e3, Cond.selects RJx4a65c yJx4a65c_elementData_915e3 yJx4a65c_elementData_915e3, Cond.code yJx4a65c_elementData_915e3 cJx4a65c_elementData_915e3 2 (some (.object "java/lang/Object")), Cond.methodLink RX6 94 yX6_tell, Cond.instanceMethod yX6_tell, Cond.selects RX6 yX6_tell yX6_tell, Cond.code yX6_tell cX6_tell 7 (some .int), Cond.classLink RX6 111 RX0, Cond.instantiable RX0 8, Cond.initialized RX0, Cond.fieldLink RX6 131 "Backdater$Change" "number" "I", Cond.methodLink RX6 199 yX0_init, Cond.instanceMethod yX0_init, Cond.code yX0_init cX0_init 8 none, Cond.methodLink RX0 3 objectInit, Cond.fieldLink RX0 9 "Backdater$Change" "takenBackOn" "I", Cond.fieldLink RX0 15 "Backdater$Change" "number" "I", Cond.fieldLink RX0 18 "Backdater$Change" "policy" "LBackdater$Policy;", Cond.fieldLink RX0 22 "Backdater$Change" "kind" "LBackdater$Kind;"]
def wsL_law0_r13 : List Cond := [Cond.fieldLink RX0 26 "Backdater$Change" "field" "I", Cond.fieldLink RX0 29 "Backdater$Change" "from" "I", Cond.fieldLink RX0 32 "Backdater$Change" "amount" "I", Cond.fieldLink RX0 35 "Backdater$Change" "toldOn" "I", Cond.methodLink RX6 202 yX2_putInOrder, Cond.instanceMethod yX2_putInOrder, Cond.selects RX2 yX2_putInOrder yX2_putInOrder, Cond.code yX2_putInOrder cX2_putInOrder 3 none, Cond.classLink RX2 33 "Backdater$Change", Cond.fieldLink RX2 35 "Backdater$Change" "from" "I", Cond.methodLink RX2 23 ⟨"java/util/List", "size", "()I"⟩, Cond.methodLink RX2 29 ⟨"java/util/List", "get", "(I)Ljava/lang/Object;"⟩, Cond.methodLink RX2 38 ⟨"java/util/List", "add", "(ILjava/lang/Object;)V"⟩, Cond.selects RJx4a65c ⟨"java/util/List", "add", "(ILjava/lang/Object;)V"⟩ yJx4a65c_add_7a177, Cond.instanceMethod yJx4a65c_add_7a177, Cond.code yJx4a65c_add_7a177 cJx4a65c_add_7a177 5 none, Cond.methodLink RJx4a65c 112 arraycopyName, Cond.methodLink RJx4a65c 135 yJx4a65c_rangeCheckForAdd_d00df, Cond.instanceMethod yJx4a65c_rangeCheckForAdd_d00df, Cond.selects RJx4a65c yJx4a65c_rangeCheckForAdd_d00df yJx4a65c_rangeCheckForAdd_d00df, Cond.code yJx4a65c_rangeCheckForAdd_d00df cJx4a65c_rangeCheckForAdd_d00df 2 none, Cond.methodLink RL 105 yX7_change, Cond.instanceMethod yX7_change, Cond.selects RX7 yX7_change yX7_change]
def wsL_law0_r14 : List Cond := [Cond.code yX7_change cX7_change 5 (some .int), Cond.methodLink RX7 89 yX7_tells, Cond.instanceMethod yX7_tells, Cond.selects RX7 yX7_tells yX7_tells, Cond.code yX7_tells cX7_tells 7 (some .int), Cond.fieldLink RX7 86 "BackdaterModel" "changes" "I", Cond.methodLink RX7 83 yX7_isPolicy, Cond.instanceMethod yX7_isPolicy, Cond.selects RX7 yX7_isPolicy yX7_isPolicy, Cond.code yX7_isPolicy cX7_isPolicy 2 (some .boolean), Cond.methodLink RL 106 yL_add, Cond.static yL_add, Cond.codeWith yL_add cL_add 7 (some .int) [(0, 14, 17, 21), (0, 14, 21, 13), (0, 14, 25, 15)], Cond.methodLink RL 30 yX6_add, Cond.instanceMethod yX6_add, Cond.selects RX6 yX6_add yX6_add, Cond.code yX6_add cX6_add 6 (some .int), Cond.fieldLink RX6 97 "Backdater$Kind" "ADD" "LBackdater$Kind;", Cond.methodLink RL 108 yX7_add, Cond.instanceMethod yX7_add, Cond.selects RX7 yX7_add yX7_add, Cond.code yX7_add cX7_add 5 (some .int), Cond.methodLink RL 109 yL_cancel, Cond.static yL_cancel]
def wsL_law0_r15 : List Cond := [Cond.codeWith yL_cancel cL_cancel 5 (some .int) [(0, 10, 13, 21), (0, 10, 17, 13), (0, 10, 21, 15)], Cond.methodLink RL 33 yX6_cancel, Cond.instanceMethod yX6_cancel, Cond.selects RX6 yX6_cancel yX6_cancel, Cond.code yX6_cancel cX6_cancel 4 (some .int), Cond.fieldLink RX6 100 "Backdater$Kind" "CANCEL" "LBackdater$Kind;", Cond.methodLink RL 112 yX7_cancel, Cond.instanceMethod yX7_cancel, Cond.selects RX7 yX7_cancel yX7_cancel, Cond.code yX7_cancel cX7_cancel 3 (some .int), Cond.methodLink RL 113 yL_reinstate, Cond.static yL_reinstate, Cond.codeWith yL_reinstate cL_reinstate 5 (some .int) [(0, 10, 13, 21), (0, 10, 17, 13), (0, 10, 21, 15)], Cond.methodLink RL 37 yX6_reinstate, Cond.instanceMethod yX6_reinstate, Cond.selects RX6 yX6_reinstate yX6_reinstate, Cond.code yX6_reinstate cX6_reinstate 4 (some .int), Cond.fieldLink RX6 103 "Backdater$Kind" "REINSTATE" "LBackdater$Kind;", Cond.methodLink RL 115 yX7_reinstate, Cond.instanceMethod yX7_reinstate, Cond.selects RX7 yX7_reinstate yX7_reinstate, Cond.code yX7_reinstate cX7_reinstate 3 (some .int), Cond.methodLink RL 116 yL_takeBack, Cond.static yL_takeBack]
def wsL_law0_r16 : List Cond := [Cond.codeWith yL_takeBack cL_takeBack 4 (some .int) [(0, 9, 12, 21), (0, 9, 15, 15)], Cond.methodLink RL 40 yX6_takeBack, Cond.instanceMethod yX6_takeBack, Cond.selects RX6 yX6_takeBack yX6_takeBack, Cond.code yX6_takeBack cX6_takeBack 3 (some .int), Cond.fieldLink RX6 110 "Backdater$Change" "takenBackOn" "I", Cond.fieldLink RX6 117 "Backdater$Change" "toldOn" "I", Cond.methodLink RX6 106 yX6_changeNumbered, Cond.instanceMethod yX6_changeNumbered, Cond.selects RX6 yX6_changeNumbered yX6_changeNumbered, Cond.code yX6_changeNumbered cX6_changeNumbered 2 (some (.object "Backdater$Change")), Cond.classLink RX6 111 "Backdater$Change", Cond.methodLink RL 118 yX7_takeBack, Cond.instanceMethod yX7_takeBack, Cond.selects RX7 yX7_takeBack yX7_takeBack, Cond.code yX7_takeBack cX7_takeBack 2 (some .int), Cond.methodLink RX7 93 yX7_isChange, Cond.instanceMethod yX7_isChange, Cond.selects RX7 yX7_isChange yX7_isChange, Cond.code yX7_isChange cX7_isChange 2 (some .boolean), Cond.methodLink RL 119 yX6_changes, Cond.instanceMethod yX6_changes, Cond.selects RX6 yX6_changes yX6_changes, Cond.code yX6_changes cX6_changes 1 (some .int)]
def wsL_law0_r17 : List Cond := [Cond.methodLink RL 122 yX7_changes, Cond.instanceMethod yX7_changes, Cond.selects RX7 yX7_changes yX7_changes, Cond.code yX7_changes cX7_changes 1 (some .int), Cond.methodLink RL 123 yL_laidAnew, Cond.static yL_laidAnew, Cond.codeWith yL_laidAnew cL_laidAnew 4 (some .int) [(0, 9, 12, 21)], Cond.methodLink RL 43 yX6_laidAnew, Cond.instanceMethod yX6_laidAnew, Cond.selects RX6 yX6_laidAnew yX6_laidAnew, Cond.code yX6_laidAnew cX6_laidAnew 7 (some .int), Cond.fieldLink RX6 120 "Backdater$Change" "policy" "LBackdater$Policy;", Cond.fieldLink RX6 124 "Backdater$Policy" "inOrder" "Ljava/util/List;", Cond.fieldLink RX6 134 "Backdater$Change" "from" "I", Cond.methodLink RX6 137 yX0_isKnownOn, Cond.instanceMethod yX0_isKnownOn, Cond.selects RX0 yX0_isKnownOn yX0_isKnownOn, Cond.code yX0_isKnownOn cX0_isKnownOn 2 (some .boolean), Cond.methodLink RL 125 yX7_laidAnew, Cond.instanceMethod yX7_laidAnew, Cond.selects RX7 yX7_laidAnew yX7_laidAnew, Cond.code yX7_laidAnew cX7_laidAnew 5 (some .int), Cond.methodLink RX7 96 yX7_isKnown, Cond.instanceMethod yX7_isKnown]
def wsL_law0_r18 : List Cond := [Cond.selects RX7 yX7_isKnown yX7_isKnown, Cond.code yX7_isKnown cX7_isKnown 3 (some .boolean), Cond.methodLink RL 126 yL_value, Cond.static yL_value, Cond.codeWith yL_value cL_value 7 (some .int) [(0, 14, 17, 21), (0, 14, 21, 13)], Cond.methodLink RL 46 yX6_value, Cond.instanceMethod yX6_value, Cond.selects RX6 yX6_value yX6_value, Cond.code yX6_value cX6_value 6 (some .int), Cond.methodLink RX6 141 yX6_demandKnown, Cond.instanceMethod yX6_demandKnown, Cond.selects RX6 yX6_demandKnown yX6_demandKnown, Cond.code yX6_demandKnown cX6_demandKnown 2 none, Cond.methodLink RX6 144 yX6_layVersion, Cond.instanceMethod yX6_layVersion, Cond.selects RX6 yX6_layVersion yX6_layVersion, Cond.code yX6_layVersion cX6_layVersion 4 none, Cond.methodLink RX6 206 yX4_begin, Cond.instanceMethod yX4_begin, Cond.selects RX4 yX4_begin yX4_begin, Cond.code yX4_begin cX4_begin 1 none, Cond.methodLink RX4 19 yJ7_fill_53178, Cond.methodLink RX6 209 yX6_layInFrom, Cond.instanceMethod yX6_layInFrom]
def wsL_law0_r19 : List Cond := [Cond.selects RX6 yX6_layInFrom yX6_layInFrom, Cond.code yX6_layInFrom cX6_layInFrom 8 (some .int), Cond.methodLink RX6 213 Lib.Math.max.name, Cond.methodLink RX6 219 yX4_layIn, Cond.instanceMethod yX4_layIn, Cond.selects RX4 yX4_layIn yX4_layIn, Cond.code yX4_layIn cX4_layIn 3 none, Cond.fieldLink RX4 25 "Backdater$Change" "kind" "LBackdater$Kind;", Cond.fieldLink RX4 31 "Backdater$Kind" "SET" "LBackdater$Kind;", Cond.fieldLink RX4 36 "Backdater$Change" "field" "I", Cond.fieldLink RX4 40 "Backdater$Change" "amount" "I", Cond.fieldLink RX4 47 "Backdater$Kind" "ADD" "LBackdater$Kind;", Cond.methodLink RX4 54 Lib.Math.max.name, Cond.methodLink RX4 60 Lib.Math.min.name, Cond.fieldLink RX4 63 "Backdater$Kind" "REINSTATE" "LBackdater$Kind;", Cond.methodLink RX4 43 yX4_putValue, Cond.instanceMethod yX4_putValue, Cond.selects RX4 yX4_putValue yX4_putValue, Cond.code yX4_putValue cX4_putValue 3 none, Cond.methodLink RX4 50 yX4_valueOf, Cond.instanceMethod yX4_valueOf, Cond.selects RX4 yX4_valueOf yX4_valueOf, Cond.code yX4_valueOf cX4_valueOf 2 (some .int), Cond.methodLink RX6 148 yX4_valueOf]
def wsL_law0_r20 : List Cond := [Cond.methodLink RL 128 yX7_value, Cond.instanceMethod yX7_value, Cond.selects RX7 yX7_value yX7_value, Cond.code yX7_value cX7_value 5 (some .int), Cond.methodLink RX7 112 yX7_looks, Cond.instanceMethod yX7_looks, Cond.selects RX7 yX7_looks yX7_looks, Cond.code yX7_looks cX7_looks 5 (some .boolean), Cond.methodLink RX7 108 yX7_goes, Cond.instanceMethod yX7_goes, Cond.selects RX7 yX7_goes yX7_goes, Cond.code yX7_goes cX7_goes 7 none, Cond.methodLink RX7 100 yX7_bounded, Cond.static yX7_bounded, Cond.code yX7_bounded cX7_bounded 1 (some .int), Cond.methodLink RX7 104 yX7_weighs, Cond.instanceMethod yX7_weighs, Cond.selects RX7 yX7_weighs yX7_weighs, Cond.code yX7_weighs cX7_weighs 6 (some .int), Cond.methodLink RL 129 yL_isCovered, Cond.static yL_isCovered, Cond.codeWith yL_isCovered cL_isCovered 6 (some .int) [(0, 19, 22, 21), (0, 19, 26, 13)], Cond.methodLink RL 49 yX6_isCovered, Cond.instanceMethod yX6_isCovered]
def wsL_law0_r21 : List Cond := [Cond.selects RX6 yX6_isCovered yX6_isCovered, Cond.code yX6_isCovered cX6_isCovered 5 (some .boolean), Cond.fieldLink RX6 152 "Backdater$Version" "covered" "Z", Cond.methodLink RL 131 yX7_isCovered, Cond.instanceMethod yX7_isCovered, Cond.selects RX7 yX7_isCovered yX7_isCovered, Cond.code yX7_isCovered cX7_isCovered 4 (some .boolean), Cond.methodLink RL 132 yL_rate, Cond.static yL_rate, Cond.codeWith yL_rate cL_rate 6 (some .int) [(0, 12, 15, 21), (0, 12, 19, 13)], Cond.methodLink RL 53 yX6_rate, Cond.instanceMethod yX6_rate, Cond.selects RX6 yX6_rate yX6_rate, Cond.code yX6_rate cX6_rate 5 (some .int), Cond.methodLink RX6 156 yX6_rateOfVersion, Cond.instanceMethod yX6_rateOfVersion, Cond.selects RX6 yX6_rateOfVersion yX6_rateOfVersion, Cond.code yX6_rateOfVersion cX6_rateOfVersion 5 (some .int), Cond.fieldLink RX6 222 "Backdater$Policy" "base" "I", Cond.methodLink RX6 225 yX3_weightOn, Cond.instanceMethod yX3_weightOn, Cond.selects RX3 yX3_weightOn yX3_weightOn, Cond.code yX3_weightOn cX3_weightOn 3 (some .int), Cond.static yX6_isDay]
def wsL_law0_r22 : List Cond := [Cond.code yX6_isDay cX6_isDay 1 (some .boolean), Cond.methodLink RL 134 yX7_rate, Cond.instanceMethod yX7_rate, Cond.selects RX7 yX7_rate yX7_rate, Cond.code yX7_rate cX7_rate 4 (some .int), Cond.methodLink RL 135 yL_segments, Cond.static yL_segments, Cond.codeWith yL_segments cL_segments 5 (some .int) [(0, 10, 13, 21), (0, 10, 17, 13)], Cond.methodLink RL 56 yX6_segments, Cond.instanceMethod yX6_segments, Cond.selects RX6 yX6_segments yX6_segments, Cond.code yX6_segments cX6_segments 4 (some .int), Cond.methodLink RX6 160 yX6_layYear, Cond.instanceMethod yX6_layYear, Cond.selects RX6 yX6_layYear yX6_layYear, Cond.code yX6_layYear cX6_layYear 5 none, Cond.methodLink RX6 228 yX5_putRate, Cond.instanceMethod yX5_putRate, Cond.selects RX5 yX5_putRate yX5_putRate, Cond.code yX5_putRate cX5_putRate 3 none, Cond.methodLink RX6 164 yX5_countSegments, Cond.instanceMethod yX5_countSegments, Cond.selects RX5 yX5_countSegments yX5_countSegments, Cond.code yX5_countSegments cX5_countSegments 3 (some .int)]
def wsL_law0_r23 : List Cond := [Cond.methodLink RX5 22 yX5_isStart, Cond.instanceMethod yX5_isStart, Cond.selects RX5 yX5_isStart yX5_isStart, Cond.code yX5_isStart cX5_isStart 2 (some .boolean), Cond.methodLink RL 137 yX7_segments, Cond.instanceMethod yX7_segments, Cond.selects RX7 yX7_segments yX7_segments, Cond.code yX7_segments cX7_segments 6 (some .int), Cond.methodLink RX7 116 yX7_begins, Cond.instanceMethod yX7_begins, Cond.selects RX7 yX7_begins yX7_begins, Cond.code yX7_begins cX7_begins 2 (some .boolean), Cond.methodLink RL 138 yL_segmentStart, Cond.static yL_segmentStart, Cond.codeWith yL_segmentStart cL_segmentStart 6 (some .int) [(0, 12, 15, 13), (0, 12, 19, 21)], Cond.methodLink RL 59 yX6_segmentStart, Cond.instanceMethod yX6_segmentStart, Cond.selects RX6 yX6_segmentStart yX6_segmentStart, Cond.code yX6_segmentStart cX6_segmentStart 4 (some .int), Cond.methodLink RX6 167 yX6_startOfSegment, Cond.instanceMethod yX6_startOfSegment, Cond.selects RX6 yX6_startOfSegment yX6_startOfSegment, Cond.code yX6_startOfSegment cX6_startOfSegment 5 (some .int), Cond.methodLink RX6 232 yX5_startOf]
def wsL_law0_r24 : List Cond := [Cond.instanceMethod yX5_startOf, Cond.selects RX5 yX5_startOf yX5_startOf, Cond.code yX5_startOf cX5_startOf 4 (some .int), Cond.methodLink RL 140 yX7_segmentStart, Cond.instanceMethod yX7_segmentStart, Cond.selects RX7 yX7_segmentStart yX7_segmentStart, Cond.code yX7_segmentStart cX7_segmentStart 5 (some .int), Cond.methodLink RX7 119 yX7_found, Cond.instanceMethod yX7_found, Cond.selects RX7 yX7_found yX7_found, Cond.code yX7_found cX7_found 9 (some .int), Cond.methodLink RL 141 yL_segmentPremium, Cond.static yL_segmentPremium, Cond.codeWith yL_segmentPremium cL_segmentPremium 6 (some .int) [(0, 12, 15, 13), (0, 12, 19, 21)], Cond.methodLink RL 62 yX6_segmentPremium, Cond.instanceMethod yX6_segmentPremium, Cond.selects RX6 yX6_segmentPremium yX6_segmentPremium, Cond.code yX6_segmentPremium cX6_segmentPremium 4 (some .int), Cond.methodLink RX6 171 yX5_premiumOfSegmentFrom, Cond.instanceMethod yX5_premiumOfSegmentFrom, Cond.selects RX5 yX5_premiumOfSegmentFrom yX5_premiumOfSegmentFrom, Cond.code yX5_premiumOfSegmentFrom cX5_premiumOfSegmentFrom 2 (some .int), Cond.methodLink RX5 25 yX5_dayBehindSegmentFrom, Cond.instanceMethod yX5_dayBehindSegmentFrom]
def wsL_law0_r25 : List Cond := [Cond.selects RX5 yX5_dayBehindSegmentFrom yX5_dayBehindSegmentFrom, Cond.code yX5_dayBehindSegmentFrom cX5_dayBehindSegmentFrom 3 (some .int), Cond.methodLink RX5 29 yX5_chargeUpTo, Cond.instanceMethod yX5_chargeUpTo, Cond.selects RX5 yX5_chargeUpTo yX5_chargeUpTo, Cond.code yX5_chargeUpTo cX5_chargeUpTo 2 (some .int), Cond.methodLink RL 143 yX7_segmentPremium, Cond.instanceMethod yX7_segmentPremium, Cond.selects RX7 yX7_segmentPremium yX7_segmentPremium, Cond.code yX7_segmentPremium cX7_segmentPremium 6 (some .int), Cond.methodLink RX7 123 yX7_charge, Cond.instanceMethod yX7_charge, Cond.selects RX7 yX7_charge yX7_charge, Cond.code yX7_charge cX7_charge 2 (some .int), Cond.methodLink RL 144 yL_premium, Cond.static yL_premium, Cond.codeWith yL_premium cL_premium 5 (some .int) [(0, 10, 13, 21), (0, 10, 17, 13)], Cond.methodLink RL 65 yX6_premium, Cond.instanceMethod yX6_premium, Cond.selects RX6 yX6_premium yX6_premium, Cond.code yX6_premium cX6_premium 4 (some .int), Cond.methodLink RX6 174 yX6_premiumBySegments, Cond.instanceMethod yX6_premiumBySegments, Cond.selects RX6 yX6_premiumBySegments yX6_premiumBySegments]
def wsL_law0_r26 : List Cond := [Cond.code yX6_premiumBySegments cX6_premiumBySegments 3 (some .int), Cond.methodLink RX6 237 yX5_sumOfPremiums, Cond.instanceMethod yX5_sumOfPremiums, Cond.selects RX5 yX5_sumOfPremiums yX5_sumOfPremiums, Cond.code yX5_sumOfPremiums cX5_sumOfPremiums 3 (some .int), Cond.methodLink RX5 32 yX5_premiumOfSegmentFrom, Cond.methodLink RL 146 yX7_premium, Cond.instanceMethod yX7_premium, Cond.selects RX7 yX7_premium yX7_premium, Cond.code yX7_premium cX7_premium 3 (some .int), Cond.methodLink RX7 126 yX7_all, Cond.instanceMethod yX7_all, Cond.selects RX7 yX7_all yX7_all, Cond.code yX7_all cX7_all 3 (some .int), Cond.methodLink RL 147 yL_premiumByDays, Cond.static yL_premiumByDays, Cond.codeWith yL_premiumByDays cL_premiumByDays 5 (some .int) [(0, 10, 13, 21), (0, 10, 17, 13)], Cond.methodLink RL 68 yX6_premiumByDays, Cond.instanceMethod yX6_premiumByDays, Cond.selects RX6 yX6_premiumByDays yX6_premiumByDays, Cond.code yX6_premiumByDays cX6_premiumByDays 6 (some .int), Cond.methodLink RL 149 yX7_premiumByDays, Cond.instanceMethod yX7_premiumByDays, Cond.selects RX7 yX7_premiumByDays yX7_premiumByDays]
def wsL_law0_r27 : List Cond := [Cond.code yX7_premiumByDays cX7_premiumByDays 3 (some .int), Cond.methodLink RL 150 yL_bill, Cond.static yL_bill, Cond.codeWith yL_bill cL_bill 4 (some .int) [(0, 9, 12, 21)], Cond.methodLink RL 71 yX6_bill, Cond.instanceMethod yX6_bill, Cond.selects RX6 yX6_bill yX6_bill, Cond.code yX6_bill cX6_bill 4 (some .int), Cond.fieldLink RX6 177 "Backdater$Policy" "billedSoFar" "I", Cond.methodLink RL 152 yX7_bill, Cond.instanceMethod yX7_bill, Cond.selects RX7 yX7_bill yX7_bill, Cond.code yX7_bill cX7_bill 4 (some .int), Cond.methodLink RL 153 yL_billed, Cond.static yL_billed, Cond.codeWith yL_billed cL_billed 4 (some .int) [(0, 9, 12, 21)], Cond.methodLink RL 74 yX6_billed, Cond.instanceMethod yX6_billed, Cond.selects RX6 yX6_billed yX6_billed, Cond.code yX6_billed cX6_billed 2 (some .int), Cond.methodLink RL 155 yX7_billed, Cond.instanceMethod yX7_billed, Cond.selects RX7 yX7_billed yX7_billed, Cond.code yX7_billed cX7_billed 2 (some .int)]
def wsL_law0 : List Cond := (wsL_law0_r1 ++ (wsL_law0_r2 ++ (wsL_law0_r3 ++ (wsL_law0_r4 ++ (wsL_law0_r5 ++ (wsL_law0_r6 ++ (wsL_law0_r7 ++ (wsL_law0_r8 ++ (wsL_law0_r9 ++ (wsL_law0_r10 ++ (wsL_law0_r11 ++ (wsL_law0_r12 ++ (wsL_law0_r13 ++ (wsL_law0_r14 ++ (wsL_law0_r15 ++ (wsL_law0_r16 ++ (wsL_law0_r17 ++ (wsL_law0_r18 ++ (wsL_law0_r19 ++ (wsL_law0_r20 ++ (wsL_law0_r21 ++ (wsL_law0_r22 ++ (wsL_law0_r23 ++ (wsL_law0_r24 ++ (wsL_law0_r25 ++ (wsL_law0_r26 ++ wsL_law0_r27)))))))))))))))))))))))))) ++ wsX60 ++ wsX70 ++ wsJx4a65c0 ++ wsX30 ++ wsX40 ++ wsX50 ++ wsX20 ++ wsX00 ++ ([] : List Cond)
def wsL_law : List Cond := wsL_law0 ++ (vx_atS RX6 58 "java/lang/IllegalStateException" ["java/lang/RuntimeException", "java/lang/Exception"]).filter goodWord ++ (vx_atS RX6 184 "java/lang/IllegalArgumentException" ["java/lang/RuntimeException", "java/lang/Exception"]).filter goodWord ++ (vx_atS RX6 192 "java/lang/IndexOutOfBoundsException" ["java/lang/RuntimeException", "java/lang/Exception"]).filter goodWord
set_option maxRecDepth 20000 in
theorem wsL_law0_in1 : ∀ w ∈ wsL_law0_r1, w ∈ lw_tbl := fun w h => (goodIn_p wsL_law0_r1 [67, 70] (by decide +kernel) (by decide +kernel) w h).1
theorem wsL_law0_in2 : ∀ w ∈ wsL_law0_r2, w ∈ lw_tbl := fun w h => (goodIn_p wsL_law0_r2 [75, 78, 81] (by decide +kernel) (by decide +kernel) w h).1
theorem wsL_law0_in3 : ∀ w ∈ wsL_law0_r3, w ∈ lw_tbl := fun w h => (goodIn_p wsL_law0_r3 [101, 107, 124, 138, 971] (by decide +kernel) (by decide +kernel) w h).1
theorem wsL_law0_in4 : ∀ w ∈ wsL_law0_r4, w ∈ lw_tbl := fun w h => (goodIn_p wsL_law0_r4 [] (by decide +kernel) (by decide +kernel) w h).1
theorem wsL_law0_in5 : ∀ w ∈ wsL_law0_r5, w ∈ lw_tbl := fun w h => (goodIn_p wsL_law0_r5 [192, 195, 183, 284] (by decide +kernel) (by decide +kernel) w h).1
theorem wsL_law0_in6 : ∀ w ∈ wsL_law0_r6, w ∈ lw_tbl := fun w h => (goodIn_p wsL_law0_r6 [309, 313, 317, 321] (by decide +kernel) (by decide +kernel) w h).1
theorem wsL_law0_in7 : ∀ w ∈ wsL_law0_r7, w ∈ lw_tbl := fun w h => (goodIn_p wsL_law0_r7 [327, 324, 331, 334, 355] (by decide +kernel) (by decide +kernel) w h).1
theorem wsL_law0_in8 : ∀ w ∈ wsL_law0_r8, w ∈ lw_tbl := fun w h => (goodIn_p wsL_law0_r8 [361, 1045, 1048, 1041] (by decide +kernel) (by decide +kernel) w h).1
theorem wsL_law0_in9 : ∀ w ∈ wsL_law0_r9, w ∈ lw_tbl := fun w h => (goodIn_p wsL_law0_r9 [374, 377, 380, 399, 404, 1052] (by decide +kernel) (by decide +kernel) w h).1
theorem wsL_law0_in10 : ∀ w ∈ wsL_law0_r10, w ∈ lw_tbl := fun w h => (goodIn_p wsL_law0_r10 [1055, 1058, 412, 1062, 169] (by decide +kernel) (by decide +kernel) w h).1
theorem wsL_law0_in11 : ∀ w ∈ wsL_law0_r11, w ∈ lw_tbl := fun w h => (goodIn_p wsL_law0_r11 [1066, 419, 423, 433, 436] (by decide +kernel) (by decide +kernel) w h).1
theorem wsL_law0_in12 : ∀ w ∈ wsL_law0_r12, w ∈ lw_tbl := fun w h => (goodIn_p wsL_law0_r12 [439, 443, 449, 455] (by decide +kernel) (by decide +kernel) w h).1
theorem wsL_law0_in13 : ∀ w ∈ wsL_law0_r13, w ∈ lw_tbl := fun w h => (goodIn_p wsL_law0_r13 [494, 508, 512] (by decide +kernel) (by decide +kernel) w h).1
theorem wsL_law0_in14 : ∀ w ∈ wsL_law0_r14, w ∈ lw_tbl := fun w h => (goodIn_p wsL_law0_r14 [1070, 1074, 1078, 757, 1082] (by decide +kernel) (by decide +kernel) w h).1
theorem wsL_law0_in15 : ∀ w ∈ wsL_law0_r15, w ∈ lw_tbl := fun w h => (goodIn_p wsL_law0_r15 [766, 1086, 775, 1090] (by decide +kernel) (by decide +kernel) w h).1
theorem wsL_law0_in16 : ∀ w ∈ wsL_law0_r16, w ∈ lw_tbl := fun w h => (goodIn_p wsL_law0_r16 [784, 788, 1094, 1098, 173] (by decide +kernel) (by decide +kernel) w h).1
theorem wsL_law0_in17 : ∀ w ∈ wsL_law0_r17, w ∈ lw_tbl := fun w h => (goodIn_p wsL_law0_r17 [1102, 797, 801, 1106] (by decide +kernel) (by decide +kernel) w h).1
theorem wsL_law0_in18 : ∀ w ∈ wsL_law0_r18, w ∈ lw_tbl := fun w h => (goodIn_p wsL_law0_r18 [1110, 808, 812, 816, 820] (by decide +kernel) (by decide +kernel) w h).1
theorem wsL_law0_in19 : ∀ w ∈ wsL_law0_r19, w ∈ lw_tbl := fun w h => (goodIn_p wsL_law0_r19 [825, 830, 835, 841] (by decide +kernel) (by decide +kernel) w h).1
theorem wsL_law0_in20 : ∀ w ∈ wsL_law0_r20, w ∈ lw_tbl := fun w h => (goodIn_p wsL_law0_r20 [1114, 1118, 1122, 1125, 1129] (by decide +kernel) (by decide +kernel) w h).1
theorem wsL_law0_in21 : ∀ w ∈ wsL_law0_r21, w ∈ lw_tbl := fun w h => (goodIn_p wsL_law0_r21 [852, 1133, 859, 863, 867] (by decide +kernel) (by decide +kernel) w h).1
theorem wsL_law0_in22 : ∀ w ∈ wsL_law0_r22, w ∈ lw_tbl := fun w h => (goodIn_p wsL_law0_r22 [870, 1137, 877, 881, 885, 890] (by decide +kernel) (by decide +kernel) w h).1
theorem wsL_law0_in23 : ∀ w ∈ wsL_law0_r23, w ∈ lw_tbl := fun w h => (goodIn_p wsL_law0_r23 [894, 1141, 1145, 901, 905] (by decide +kernel) (by decide +kernel) w h).1
theorem wsL_law0_in24 : ∀ w ∈ wsL_law0_r24, w ∈ lw_tbl := fun w h => (goodIn_p wsL_law0_r24 [909, 1149, 1153, 917, 921] (by decide +kernel) (by decide +kernel) w h).1
theorem wsL_law0_in25 : ∀ w ∈ wsL_law0_r25, w ∈ lw_tbl := fun w h => (goodIn_p wsL_law0_r25 [925, 929, 1157, 1161, 936] (by decide +kernel) (by decide +kernel) w h).1
theorem wsL_law0_in26 : ∀ w ∈ wsL_law0_r26, w ∈ lw_tbl := fun w h => (goodIn_p wsL_law0_r26 [940, 944, 1165, 1169, 952] (by decide +kernel) (by decide +kernel) w h).1
theorem wsL_law0_in27 : ∀ w ∈ wsL_law0_r27, w ∈ lw_tbl := fun w h => (goodIn_p wsL_law0_r27 [1173, 959, 1177, 966, 1181] (by decide +kernel) (by decide +kernel) w h).1
theorem wsL_law0_l0 : ∀ w ∈ wsX60, w ∈ lw_tbl := by decide +kernel
theorem wsL_law0_l1 : ∀ w ∈ wsX70, w ∈ lw_tbl := by decide +kernel
theorem wsL_law0_l2 : ∀ w ∈ wsJx4a65c0, w ∈ lw_tbl := by decide +kernel
theorem wsL_law0_l3 : ∀ w ∈ wsX30, w ∈ lw_tbl := by decide +kernel
theorem wsL_law0_l4 : ∀ w ∈ wsX40, w ∈ lw_tbl := by decide +kernel
theorem wsL_law0_l5 : ∀ w ∈ wsX50, w ∈ lw_tbl := by decide +kernel
theorem wsL_law0_l6 : ∀ w ∈ wsX20, w ∈ lw_tbl := by decide +kernel
theorem wsL_law0_l7 : ∀ w ∈ wsX00, w ∈ lw_tbl := by decide +kernel
theorem wsL_law_in0 : ∀ w ∈ wsL_law0, w ∈ lw_tbl := fun w h => (List.mem_append.mp h).elim (fun h => (List.mem_append.mp h).elim (fun h => (List.mem_append.mp h).elim (fun h => (List.mem_append.mp h).elim (fun h => (List.mem_append.mp h).elim (fun h => (List.mem_append.mp h).elim (fun h => (List.mem_append.mp h).elim (fun h => (List.mem_append.mp h).elim (fun h => (List.mem_append.mp h).elim (fun h => (List.mem_append.mp h).elim (fun h => wsL_law0_in1 w h) (fun h => (List.mem_append.mp h).elim (fun h => wsL_law0_in2 w h) (fun h => (List.mem_append.mp h).elim (fun h => wsL_law0_in3 w h) (fun h => (List.mem_append.mp h).elim (fun h => wsL_law0_in4 w h) (fun h => (List.mem_append.mp h).elim (fun h => wsL_law0_in5 w h) (fun h => (List.mem_append.mp h).elim (fun h => wsL_law0_in6 w h) (fun h => (List.mem_append.mp h).elim (fun h => wsL_law0_in7 w h) (fun h => (List.mem_append.mp h).elim (fun h => wsL_law0_in8 w h) (fun h => (List.mem_append.mp h).elim (fun h => wsL_law0_in9 w h) (fun h => (List.mem_append.mp h).elim (fun h => wsL_law0_in10 w h) (fun h => (List.mem_append.mp h).elim (fun h => wsL_law0_in11 w h) (fun h => (List.mem_append.mp h).elim (fun h => wsL_law0_in12 w h) (fun h => (List.mem_append.mp h).elim (fun h => wsL_law0_in13 w h) (fun h => (List.mem_append.mp h).elim (fun h => wsL_law0_in14 w h) (fun h => (List.mem_append.mp h).elim (fun h => wsL_law0_in15 w h) (fun h => (List.mem_append.mp h).elim (fun h => wsL_law0_in16 w h) (fun h => (List.mem_append.mp h).elim (fun h => wsL_law0_in17 w h) (fun h => (List.mem_append.mp h).elim (fun h => wsL_law0_in18 w h) (fun h => (List.mem_append.mp h).elim (fun h => wsL_law0_in19 w h) (fun h => (List.mem_append.mp h).elim (fun h => wsL_law0_in20 w h) (fun h => (List.mem_append.mp h).elim (fun h => wsL_law0_in21 w h) (fun h => (List.mem_append.mp h).elim (fun h => wsL_law0_in22 w h) (fun h => (List.mem_append.mp h).elim (fun h => wsL_law0_in23 w h) (fun h => (List.mem_append.mp h).elim (fun h => wsL_law0_in24 w h) (fun h => (List.mem_append.mp h).elim (fun h => wsL_law0_in25 w h) (fun h => (List.mem_append.mp h).elim (fun h => wsL_law0_in26 w h) (fun h => wsL_law0_in27 w h))))))))))))))))))))))))))) (fun h => wsL_law0_l0 w h)) (fun h => wsL_law0_l1 w h)) (fun h => wsL_law0_l2 w h)) (fun h => wsL_law0_l3 w h)) (fun h => wsL_law0_l4 w h)) (fun h => wsL_law0_l5 w h)) (fun h => wsL_law0_l6 w h)) (fun h => wsL_law0_l7 w h)) (fun h => absurd h List.not_mem_nil)
theorem wsL_law_x0 : ∀ w ∈ (vx_atS RX6 58 "java/lang/IllegalStateException" ["java/lang/RuntimeException", "java/lang/Exception"]).filter goodWord, w ∈ lw_tbl := by decide +kernel
theorem wsL_law_x1 : ∀ w ∈ (vx_atS RX6 184 "java/lang/IllegalArgumentException" ["java/lang/RuntimeException", "java/lang/Exception"]).filter goodWord, w ∈ lw_tbl := by decide +kernel
theorem wsL_law_x2 : ∀ w ∈ (vx_atS RX6 192 "java/lang/IndexOutOfBoundsException" ["java/lang/RuntimeException", "java/lang/Exception"]).filter goodWord, w ∈ lw_tbl := by decide +kernel
theorem wsL_law_in : ∀ w ∈ wsL_law, w ∈ lw_tbl := fun w h => (List.mem_append.mp h).elim (fun h => (List.mem_append.mp h).elim (fun h => (List.mem_append.mp h).elim (fun h => wsL_law_in0 w h) (fun h => wsL_law_x0 w h)) (fun h => wsL_law_x1 w h)) (fun h => wsL_law_x2 w h)
theorem inlX0 : ∀ w ∈ wsX00, w ∈ wsL_law := fun _ h => List.mem_append_left _ (List.mem_append_left _ (List.mem_append_left _ (List.mem_append_left _ (List.mem_append_right _ h))))
theorem inX0 : ∀ w ∈ wsX00, w ∈ lw_tbl := fun w h => wsL_law_in w (inlX0 w h)
theorem inX1 : ∀ w ∈ wsX10, w ∈ lw_tbl := by decide +kernel
theorem inlX2 : ∀ w ∈ wsX20, w ∈ wsL_law := fun _ h => List.mem_append_left _ (List.mem_append_left _ (List.mem_append_left _ (List.mem_append_left _ (List.mem_append_left _ (List.mem_append_right _ h)))))
theorem inX2 : ∀ w ∈ wsX20, w ∈ lw_tbl := fun w h => wsL_law_in w (inlX2 w h)
theorem inlX3 : ∀ w ∈ wsX30, w ∈ wsL_law := fun _ h => List.mem_append_left _ (List.mem_append_left _ (List.mem_append_left _ (List.mem_append_left _ (List.mem_append_left _ (List.mem_append_left _ (List.mem_append_left _ (List.mem_append_left _ (List.mem_append_right _ h))))))))
theorem inX3 : ∀ w ∈ wsX30, w ∈ lw_tbl := fun w h => wsL_law_in w (inlX3 w h)
theorem inlX4 : ∀ w ∈ wsX40, w ∈ wsL_law := fun _ h => List.mem_append_left _ (List.mem_append_left _ (List.mem_append_left _ (List.mem_append_left _ (List.mem_append_left _ (List.mem_append_left _ (List.mem_append_left _ (List.mem_append_right _ h)))))))
theorem inX4 : ∀ w ∈ wsX40, w ∈ lw_tbl := fun w h => wsL_law_in w (inlX4 w h)
theorem inlX5 : ∀ w ∈ wsX50, w ∈ wsL_law := fun _ h => List.mem_append_left _ (List.mem_append_left _ (List.mem_append_left _ (List.mem_append_left _ (List.mem_append_left _ (List.mem_append_left _ (List.mem_append_right _ h))))))
theorem inX5 : ∀ w ∈ wsX50, w ∈ lw_tbl := fun w h => wsL_law_in w (inlX5 w h)
theorem inlX6 : ∀ w ∈ wsX60, w ∈ wsL_law := fun _ h => List.mem_append_left _ (List.mem_append_left _ (List.mem_append_left _ (List.mem_append_left _ (List.mem_append_left _ (List.mem_append_left _ (List.mem_append_left _ (List.mem_append_left _ (List.mem_append_left _ (List.mem_append_left _ (List.mem_append_left _ (List.mem_append_right _ h)))))))))))
theorem inX6 : ∀ w ∈ wsX60, w ∈ lw_tbl := fun w h => wsL_law_in w (inlX6 w h)
theorem inlX7 : ∀ w ∈ wsX70, w ∈ wsL_law := fun _ h => List.mem_append_left _ (List.mem_append_left _ (List.mem_append_left _ (List.mem_append_left _ (List.mem_append_left _ (List.mem_append_left _ (List.mem_append_left _ (List.mem_append_left _ (List.mem_append_left _ (List.mem_append_left _ (List.mem_append_right _ h))))))))))
theorem inX7 : ∀ w ∈ wsX70, w ∈ lw_tbl := fun w h => wsL_law_in w (inlX7 w h)
theorem inJx145de : ∀ w ∈ wsJx145de0, w ∈ lw_tbl := by decide +kernel
theorem inJ5 : ∀ w ∈ wsJ50, w ∈ lw_tbl := by decide +kernel
theorem inJx2cfe8 : ∀ w ∈ wsJx2cfe80, w ∈ lw_tbl := by decide +kernel
theorem inJx9f9b0 : ∀ w ∈ wsJx9f9b00, w ∈ lw_tbl := by decide +kernel
theorem inJx8e188 : ∀ w ∈ wsJx8e1880, w ∈ lw_tbl := by decide +kernel
theorem inJxb160c : ∀ w ∈ wsJxb160c0, w ∈ lw_tbl := by decide +kernel
theorem inJx29ce0 : ∀ w ∈ wsJx29ce00, w ∈ lw_tbl := by decide +kernel
theorem inJ6 : ∀ w ∈ wsJ60, w ∈ lw_tbl := by decide +kernel
theorem inJxab1ab : ∀ w ∈ wsJxab1ab0, w ∈ lw_tbl := by decide +kernel
theorem inJ9 : ∀ w ∈ wsJ90, w ∈ lw_tbl := by decide +kernel
theorem inJxd2413 : ∀ w ∈ wsJxd24130, w ∈ lw_tbl := by decide +kernel
theorem inJ0 : ∀ w ∈ wsJ00, w ∈ lw_tbl := by decide +kernel
theorem inJ4 : ∀ w ∈ wsJ40, w ∈ lw_tbl := by decide +kernel
theorem inJ1 : ∀ w ∈ wsJ10, w ∈ lw_tbl := by decide +kernel
theorem inJ2 : ∀ w ∈ wsJ20, w ∈ lw_tbl := by decide +kernel
theorem inJ10 : ∀ w ∈ wsJ100, w ∈ lw_tbl := by decide +kernel
theorem inJxfd54e : ∀ w ∈ wsJxfd54e0, w ∈ lw_tbl := by decide +kernel
theorem inJx3cf43 : ∀ w ∈ wsJx3cf430, w ∈ lw_tbl := by decide +kernel
theorem inJxa1e45 : ∀ w ∈ wsJxa1e450, w ∈ lw_tbl := by decide +kernel
theorem inJxc12de : ∀ w ∈ wsJxc12de0, w ∈ lw_tbl := by decide +kernel
theorem inlJx4a65c : ∀ w ∈ wsJx4a65c0, w ∈ wsL_law := fun _ h => List.mem_append_left _ (List.mem_append_left _ (List.mem_append_left _ (List.mem_append_left _ (List.mem_append_left _ (List.mem_append_left _ (List.mem_append_left _ (List.mem_append_left _ (List.mem_append_left _ (List.mem_append_right _ h)))))))))
theorem inJx4a65c : ∀ w ∈ wsJx4a65c0, w ∈ lw_tbl := fun w h => wsL_law_in w (inlJx4a65c w h)
theorem inJ7 : ∀ w ∈ wsJ70, w ∈ lw_tbl := by decide +kernel
theorem inJx5ef63 : ∀ w ∈ wsJx5ef630, w ∈ lw_tbl := by decide +kernel
theorem inJxbd725 : ∀ w ∈ wsJxbd7250, w ∈ lw_tbl := by decide +kernel
theorem inJ15 : ∀ w ∈ wsJ150, w ∈ lw_tbl := by decide +kernel
theorem inJxf0a74 : ∀ w ∈ wsJxf0a740, w ∈ lw_tbl := by decide +kernel
theorem inJxa66e6 : ∀ w ∈ wsJxa66e60, w ∈ lw_tbl := by decide +kernel
theorem inJ8 : ∀ w ∈ wsJ80, w ∈ lw_tbl := by decide +kernel
theorem inJ3 : ∀ w ∈ wsJ30, w ∈ lw_tbl := by decide +kernel
abbrev vwCl : List vw_C := [(RJ0, TJ0, 4), (RJ4, TJ4, 4), (RJx4a65c, TJx4a65c, 3), (RX0, TX0, 8), (RX2, TX2, 3), (RX3, TX3, 3), (RX4, TX4, 2), (RX5, TX5, 2), (RX6, TX6, 6), (RX7, TX7, 21)]
/-! ===== END printed: names ===== -/
end
section
theorem dJ9_max_7cf53_0 : decode cJ9_max_7cf53 0 = .ok (.iload_n 0, 1) := by decide +kernel
theorem dJ9_max_7cf53_1 : decode cJ9_max_7cf53 1 = .ok (.iload_n 1, 1) := by decide +kernel
theorem dJ9_max_7cf53_2 : decode cJ9_max_7cf53 2 = .ok (.if_icmp .lt 7, 3) := by decide +kernel
theorem dJ9_max_7cf53_5 : decode cJ9_max_7cf53 5 = .ok (.iload_n 0, 1) := by decide +kernel
theorem dJ9_max_7cf53_6 : decode cJ9_max_7cf53 6 = .ok (.goto 4, 3) := by decide +kernel
theorem dJ9_max_7cf53_9 : decode cJ9_max_7cf53 9 = .ok (.iload_n 1, 1) := by decide +kernel
theorem dJ9_max_7cf53_10 : decode cJ9_max_7cf53 10 = .ok (.ireturn, 1) := by decide +kernel
theorem dJ9_min_7cf53_0 : decode cJ9_min_7cf53 0 = .ok (.iload_n 0, 1) := by decide +kernel
theorem dJ9_min_7cf53_1 : decode cJ9_min_7cf53 1 = .ok (.iload_n 1, 1) := by decide +kernel
theorem dJ9_min_7cf53_2 : decode cJ9_min_7cf53 2 = .ok (.if_icmp .gt 7, 3) := by decide +kernel
theorem dJ9_min_7cf53_5 : decode cJ9_min_7cf53 5 = .ok (.iload_n 0, 1) := by decide +kernel
theorem dJ9_min_7cf53_6 : decode cJ9_min_7cf53 6 = .ok (.goto 4, 3) := by decide +kernel
theorem dJ9_min_7cf53_9 : decode cJ9_min_7cf53 9 = .ok (.iload_n 1, 1) := by decide +kernel
theorem dJ9_min_7cf53_10 : decode cJ9_min_7cf53 10 = .ok (.ireturn, 1) := by decide +kernel
theorem dJxa1e45_init_da8c8_0 : decode cJxa1e45_init_da8c8 0 = .ok (.aload_n 0, 1) := by decide +kernel
theorem dJxa1e45_init_da8c8_1 : decode cJxa1e45_init_da8c8 1 = .ok (.invokespecial 1, 3) := by decide +kernel
theorem dJxa1e45_init_da8c8_4 : decode cJxa1e45_init_da8c8 4 = .ok (.return_, 1) := by decide +kernel
set_option maxRecDepth 20000 in
theorem ggJxc12de_init_da8c8_Jxa1e45_init_da8c8 : GoodIn wsJxc12de_init_da8c8 wsJxa1e45_init_da8c8 := goodIn_r _ [5, 6, 7, 8] (by decide +kernel) (by decide +kernel)
set_option maxRecDepth 20000 in
theorem gJxc12de_init_da8c8_Jxa1e45_init_da8c8 : GoodIn wsJxc12de_init_da8c8 (wsJxa1e45_init_da8c8) := ggJxc12de_init_da8c8_Jxa1e45_init_da8c8
theorem dJxc12de_init_da8c8_0 : decode cJxc12de_init_da8c8 0 = .ok (.aload_n 0, 1) := by decide +kernel
theorem dJxc12de_init_da8c8_1 : decode cJxc12de_init_da8c8 1 = .ok (.invokespecial 1, 3) := by decide +kernel
theorem dJxc12de_init_da8c8_4 : decode cJxc12de_init_da8c8 4 = .ok (.aload_n 0, 1) := by decide +kernel
theorem dJxc12de_init_da8c8_5 : decode cJxc12de_init_da8c8 5 = .ok (.iconst 0, 1) := by decide +kernel
theorem dJxc12de_init_da8c8_6 : decode cJxc12de_init_da8c8 6 = .ok (.putfield 7, 3) := by decide +kernel
theorem dJxc12de_init_da8c8_9 : decode cJxc12de_init_da8c8 9 = .ok (.return_, 1) := by decide +kernel
set_option maxRecDepth 20000 in
theorem ggJx4a65c_init_da8c8_Jxc12de_init_da8c8 : GoodIn wsJx4a65c_init_da8c8 wsJxc12de_init_da8c8 := goodIn_r _ [6, 7, 8, 9, 10, 11, 12, 13, 14, 15, 16, 17] (by decide +kernel) (by decide +kernel)
set_option maxRecDepth 20000 in
theorem gJx4a65c_init_da8c8_Jxc12de_init_da8c8 : GoodIn wsJx4a65c_init_da8c8 (wsJxc12de_init_da8c8) := ggJx4a65c_init_da8c8_Jxc12de_init_da8c8
theorem dJx4a65c_init_da8c8_0 : decode cJx4a65c_init_da8c8 0 = .ok (.aload_n 0, 1) := by decide +kernel
theorem dJx4a65c_init_da8c8_1 : decode cJx4a65c_init_da8c8 1 = .ok (.invokespecial 1, 3) := by decide +kernel
theorem dJx4a65c_init_da8c8_4 : decode cJx4a65c_init_da8c8 4 = .ok (.aload_n 0, 1) := by decide +kernel
theorem dJx4a65c_init_da8c8_5 : decode cJx4a65c_init_da8c8 5 = .ok (.getstatic 39, 3) := by decide +kernel
theorem dJx4a65c_init_da8c8_8 : decode cJx4a65c_init_da8c8 8 = .ok (.putfield 9, 3) := by decide +kernel
theorem dJx4a65c_init_da8c8_11 : decode cJx4a65c_init_da8c8 11 = .ok (.return_, 1) := by decide +kernel
set_option maxRecDepth 20000 in
theorem ggJx4a65c_grow_92f84_J8_newLength_cabcc : GoodIn wsJx4a65c_grow_92f84 wsJ8_newLength_cabcc := goodIn_r _ [11, 12, 4, 5, 6, 13, 14, 15, 10, 16] (by decide +kernel) (by decide +kernel)
set_option maxRecDepth 20000 in
theorem gJx4a65c_grow_92f84_J8_newLength_cabcc : GoodIn wsJx4a65c_grow_92f84 (va_wsS RJx4a65c 73 yJ8_newLength_cabcc wsJ8_newLength_cabcc) := goodIn_app (goodIn_of _ (by decide +kernel)) ggJx4a65c_grow_92f84_J8_newLength_cabcc
set_option maxRecDepth 20000 in
theorem ggJx4a65c_grow_92f84_J7_copyOf_1904c : GoodIn wsJx4a65c_grow_92f84 wsJ7_copyOf_1904c := goodIn_r _ [20, 21, 22, 23, 24, 25, 26, 19, 27, 28, 29, 30, 31, 5, 32, 33, 34, 35, 36] (by decide +kernel) (by decide +kernel)
set_option maxRecDepth 20000 in
theorem gJx4a65c_grow_92f84_J7_copyOf_1904c : GoodIn wsJx4a65c_grow_92f84 (va_wsS RJx4a65c 66 yJ7_copyOf_1904c wsJ7_copyOf_1904c) := goodIn_app (goodIn_of _ (by decide +kernel)) ggJx4a65c_grow_92f84_J7_copyOf_1904c
theorem dJx4a65c_grow_92f84_0 : decode cJx4a65c_grow_92f84 0 = .ok (.aload_n 0, 1) := by decide +kernel
theorem dJx4a65c_grow_92f84_1 : decode cJx4a65c_grow_92f84 1 = .ok (.getfield 9, 3) := by decide +kernel
theorem dJx4a65c_grow_92f84_4 : decode cJx4a65c_grow_92f84 4 = .ok (.arraylength, 1) := by decide +kernel
theorem dJx4a65c_grow_92f84_5 : decode cJx4a65c_grow_92f84 5 = .ok (.istore_n 2, 1) := by decide +kernel
theorem dJx4a65c_grow_92f84_6 : decode cJx4a65c_grow_92f84 6 = .ok (.iload_n 2, 1) := by decide +kernel
theorem dJx4a65c_grow_92f84_7 : decode cJx4a65c_grow_92f84 7 = .ok (.ifCond .gt 13, 3) := by decide +kernel
theorem dJx4a65c_grow_92f84_10 : decode cJx4a65c_grow_92f84 10 = .ok (.aload_n 0, 1) := by decide +kernel
theorem dJx4a65c_grow_92f84_11 : decode cJx4a65c_grow_92f84 11 = .ok (.getfield 9, 3) := by decide +kernel
theorem dJx4a65c_grow_92f84_14 : decode cJx4a65c_grow_92f84 14 = .ok (.getstatic 39, 3) := by decide +kernel
theorem dJx4a65c_grow_92f84_17 : decode cJx4a65c_grow_92f84 17 = .ok (.if_acmp .eq 28, 3) := by decide +kernel
theorem dJx4a65c_grow_92f84_20 : decode cJx4a65c_grow_92f84 20 = .ok (.iload_n 2, 1) := by decide +kernel
theorem dJx4a65c_grow_92f84_21 : decode cJx4a65c_grow_92f84 21 = .ok (.iload_n 1, 1) := by decide +kernel
theorem dJx4a65c_grow_92f84_22 : decode cJx4a65c_grow_92f84 22 = .ok (.iload_n 2, 1) := by decide +kernel
theorem dJx4a65c_grow_92f84_23 : decode cJx4a65c_grow_92f84 23 = .ok (.isub, 1) := by decide +kernel
theorem dJx4a65c_grow_92f84_24 : decode cJx4a65c_grow_92f84 24 = .ok (.iload_n 2, 1) := by decide +kernel
theorem dJx4a65c_grow_92f84_25 : decode cJx4a65c_grow_92f84 25 = .ok (.iconst 1, 1) := by decide +kernel
theorem dJx4a65c_grow_92f84_26 : decode cJx4a65c_grow_92f84 26 = .ok (.ishr, 1) := by decide +kernel
theorem dJx4a65c_grow_92f84_27 : decode cJx4a65c_grow_92f84 27 = .ok (.invokestatic 73, 3) := by decide +kernel
theorem dJx4a65c_grow_92f84_30 : decode cJx4a65c_grow_92f84 30 = .ok (.istore_n 3, 1) := by decide +kernel
theorem dJx4a65c_grow_92f84_31 : decode cJx4a65c_grow_92f84 31 = .ok (.aload_n 0, 1) := by decide +kernel
theorem dJx4a65c_grow_92f84_32 : decode cJx4a65c_grow_92f84 32 = .ok (.aload_n 0, 1) := by decide +kernel
theorem dJx4a65c_grow_92f84_33 : decode cJx4a65c_grow_92f84 33 = .ok (.getfield 9, 3) := by decide +kernel
theorem dJx4a65c_grow_92f84_36 : decode cJx4a65c_grow_92f84 36 = .ok (.iload_n 3, 1) := by decide +kernel
theorem dJx4a65c_grow_92f84_37 : decode cJx4a65c_grow_92f84 37 = .ok (.invokestatic 66, 3) := by decide +kernel
theorem dJx4a65c_grow_92f84_40 : decode cJx4a65c_grow_92f84 40 = .ok (.dup_x1, 1) := by decide +kernel
theorem dJx4a65c_grow_92f84_41 : decode cJx4a65c_grow_92f84 41 = .ok (.putfield 9, 3) := by decide +kernel
theorem dJx4a65c_grow_92f84_44 : decode cJx4a65c_grow_92f84 44 = .ok (.areturn, 1) := by decide +kernel
theorem dJx4a65c_grow_92f84_45 : decode cJx4a65c_grow_92f84 45 = .ok (.aload_n 0, 1) := by decide +kernel
theorem dJx4a65c_grow_92f84_46 : decode cJx4a65c_grow_92f84 46 = .ok (.bipush 10, 2) := by decide +kernel
theorem dJx4a65c_grow_92f84_48 : decode cJx4a65c_grow_92f84 48 = .ok (.iload_n 1, 1) := by decide +kernel
theorem dJx4a65c_grow_92f84_49 : decode cJx4a65c_grow_92f84 49 = .ok (.invokestatic 79, 3) := by decide +kernel
theorem dJx4a65c_grow_92f84_52 : decode cJx4a65c_grow_92f84 52 = .ok (.anewarray 7, 3) := by decide +kernel
theorem dJx4a65c_grow_92f84_55 : decode cJx4a65c_grow_92f84 55 = .ok (.dup_x1, 1) := by decide +kernel
theorem dJx4a65c_grow_92f84_56 : decode cJx4a65c_grow_92f84 56 = .ok (.putfield 9, 3) := by decide +kernel
theorem dJx4a65c_grow_92f84_59 : decode cJx4a65c_grow_92f84 59 = .ok (.areturn, 1) := by decide +kernel
set_option maxRecDepth 20000 in
theorem ggJx4a65c_grow_d5877_Jx4a65c_grow_92f84 : GoodIn wsJx4a65c_grow_d5877 wsJx4a65c_grow_92f84 := goodIn_r _ [6, 7, 8, 9, 10, 11, 12, 13, 14, 15, 16, 17, 18, 19, 20, 21, 22, 23, 24, 25, 26, 27, 28, 29, 30, 31, 32, 33, 34, 35, 36, 37, 38, 39, 40, 41, 42, 43, 44, 45] (by decide +kernel) (by decide +kernel)
set_option maxRecDepth 20000 in
theorem gJx4a65c_grow_d5877_Jx4a65c_grow_92f84 : GoodIn wsJx4a65c_grow_d5877 (wsV RJx4a65c 69 RJx4a65c yJx4a65c_grow_92f84 wsJx4a65c_grow_92f84) := goodIn_app (goodIn_of _ (by decide +kernel)) ggJx4a65c_grow_d5877_Jx4a65c_grow_92f84
theorem dJx4a65c_grow_d5877_0 : decode cJx4a65c_grow_d5877 0 = .ok (.aload_n 0, 1) := by decide +kernel
theorem dJx4a65c_grow_d5877_1 : decode cJx4a65c_grow_d5877 1 = .ok (.aload_n 0, 1) := by decide +kernel
theorem dJx4a65c_grow_d5877_2 : decode cJx4a65c_grow_d5877 2 = .ok (.getfield 48, 3) := by decide +kernel
theorem dJx4a65c_grow_d5877_5 : decode cJx4a65c_grow_d5877 5 = .ok (.iconst 1, 1) := by decide +kernel
theorem dJx4a65c_grow_d5877_6 : decode cJx4a65c_grow_d5877 6 = .ok (.iadd, 1) := by decide +kernel
theorem dJx4a65c_grow_d5877_7 : decode cJx4a65c_grow_d5877 7 = .ok (.invokevirtual 69, 3) := by decide +kernel
theorem dJx4a65c_grow_d5877_10 : decode cJx4a65c_grow_d5877 10 = .ok (.areturn, 1) := by decide +kernel
theorem dJx4a65c_size_8abf5_0 : decode cJx4a65c_size_8abf5 0 = .ok (.aload_n 0, 1) := by decide +kernel
theorem dJx4a65c_size_8abf5_1 : decode cJx4a65c_size_8abf5 1 = .ok (.getfield 48, 3) := by decide +kernel
theorem dJx4a65c_size_8abf5_4 : decode cJx4a65c_size_8abf5 4 = .ok (.ireturn, 1) := by decide +kernel
theorem dJx4a65c_elementData_915e3_0 : decode cJx4a65c_elementData_915e3 0 = .ok (.aload_n 0, 1) := by decide +kernel
theorem dJx4a65c_elementData_915e3_1 : decode cJx4a65c_elementData_915e3 1 = .ok (.getfield 9, 3) := by decide +kernel
theorem dJx4a65c_elementData_915e3_4 : decode cJx4a65c_elementData_915e3 4 = .ok (.iload_n 1, 1) := by decide +kernel
theorem dJx4a65c_elementData_915e3_5 : decode cJx4a65c_elementData_915e3 5 = .ok (.aaload, 1) := by decide +kernel
theorem dJx4a65c_elementData_915e3_6 : decode cJx4a65c_elementData_915e3 6 = .ok (.areturn, 1) := by decide +kernel
set_option maxRecDepth 20000 in
theorem ggJx4a65c_get_915e3_J15_checkIndex_7cf53 : GoodIn wsJx4a65c_get_915e3 wsJ15_checkIndex_7cf53 := goodIn_r _ [5, 6, 7, 8, 9] (by decide +kernel) (by decide +kernel)
set_option maxRecDepth 20000 in
theorem gJx4a65c_get_915e3_J15_checkIndex_7cf53 : GoodIn wsJx4a65c_get_915e3 (va_wsS RJx4a65c 118 yJ15_checkIndex_7cf53 wsJ15_checkIndex_7cf53) := goodIn_app (goodIn_of _ (by decide +kernel)) ggJx4a65c_get_915e3_J15_checkIndex_7cf53
set_option maxRecDepth 20000 in
theorem ggJx4a65c_get_915e3_Jx4a65c_elementData_915e3 : GoodIn wsJx4a65c_get_915e3 wsJx4a65c_elementData_915e3 := goodIn_r _ [14, 15, 16, 17, 18] (by decide +kernel) (by decide +kernel)
set_option maxRecDepth 20000 in
theorem gJx4a65c_get_915e3_Jx4a65c_elementData_915e3 : GoodIn wsJx4a65c_get_915e3 (wsV RJx4a65c 123 RJx4a65c yJx4a65c_elementData_915e3 wsJx4a65c_elementData_915e3) := goodIn_app (goodIn_of _ (by decide +kernel)) ggJx4a65c_get_915e3_Jx4a65c_elementData_915e3
theorem dJx4a65c_get_915e3_0 : decode cJx4a65c_get_915e3 0 = .ok (.iload_n 1, 1) := by decide +kernel
theorem dJx4a65c_get_915e3_1 : decode cJx4a65c_get_915e3 1 = .ok (.aload_n 0, 1) := by decide +kernel
theorem dJx4a65c_get_915e3_2 : decode cJx4a65c_get_915e3 2 = .ok (.getfield 48, 3) := by decide +kernel
theorem dJx4a65c_get_915e3_5 : decode cJx4a65c_get_915e3 5 = .ok (.invokestatic 118, 3) := by decide +kernel
theorem dJx4a65c_get_915e3_8 : decode cJx4a65c_get_915e3 8 = .ok (.pop, 1) := by decide +kernel
theorem dJx4a65c_get_915e3_9 : decode cJx4a65c_get_915e3 9 = .ok (.aload_n 0, 1) := by decide +kernel
theorem dJx4a65c_get_915e3_10 : decode cJx4a65c_get_915e3 10 = .ok (.iload_n 1, 1) := by decide +kernel
theorem dJx4a65c_get_915e3_11 : decode cJx4a65c_get_915e3 11 = .ok (.invokevirtual 123, 3) := by decide +kernel
theorem dJx4a65c_get_915e3_14 : decode cJx4a65c_get_915e3 14 = .ok (.areturn, 1) := by decide +kernel
set_option maxRecDepth 20000 in
theorem ggJx4a65c_add_72be8_Jx4a65c_grow_d5877 : GoodIn wsJx4a65c_add_72be8 wsJx4a65c_grow_d5877 := goodIn_r _ [6, 1, 7, 8, 9, 5, 10, 11, 12, 13, 14, 15, 16, 17, 18, 19, 20, 21, 22, 23, 24, 25, 26, 27, 28, 29, 30, 31, 32, 33, 34, 35, 36, 37, 38, 39, 40, 41, 42, 43, 44, 45, 46, 47, 48, 49] (by decide +kernel) (by decide +kernel)
set_option maxRecDepth 20000 in
theorem gJx4a65c_add_72be8_Jx4a65c_grow_d5877 : GoodIn wsJx4a65c_add_72be8 (wsV RJx4a65c 129 RJx4a65c yJx4a65c_grow_d5877 wsJx4a65c_grow_d5877) := goodIn_app (goodIn_of _ (by decide +kernel)) ggJx4a65c_add_72be8_Jx4a65c_grow_d5877
theorem dJx4a65c_add_72be8_0 : decode cJx4a65c_add_72be8 0 = .ok (.iload_n 3, 1) := by decide +kernel
theorem dJx4a65c_add_72be8_1 : decode cJx4a65c_add_72be8 1 = .ok (.aload_n 2, 1) := by decide +kernel
theorem dJx4a65c_add_72be8_2 : decode cJx4a65c_add_72be8 2 = .ok (.arraylength, 1) := by decide +kernel
theorem dJx4a65c_add_72be8_3 : decode cJx4a65c_add_72be8 3 = .ok (.if_icmp .ne 8, 3) := by decide +kernel
theorem dJx4a65c_add_72be8_6 : decode cJx4a65c_add_72be8 6 = .ok (.aload_n 0, 1) := by decide +kernel
theorem dJx4a65c_add_72be8_7 : decode cJx4a65c_add_72be8 7 = .ok (.invokevirtual 129, 3) := by decide +kernel
theorem dJx4a65c_add_72be8_10 : decode cJx4a65c_add_72be8 10 = .ok (.astore_n 2, 1) := by decide +kernel
theorem dJx4a65c_add_72be8_11 : decode cJx4a65c_add_72be8 11 = .ok (.aload_n 2, 1) := by decide +kernel
theorem dJx4a65c_add_72be8_12 : decode cJx4a65c_add_72be8 12 = .ok (.iload_n 3, 1) := by decide +kernel
theorem dJx4a65c_add_72be8_13 : decode cJx4a65c_add_72be8 13 = .ok (.aload_n 1, 1) := by decide +kernel
theorem dJx4a65c_add_72be8_14 : decode cJx4a65c_add_72be8 14 = .ok (.aastore, 1) := by decide +kernel
theorem dJx4a65c_add_72be8_15 : decode cJx4a65c_add_72be8 15 = .ok (.aload_n 0, 1) := by decide +kernel
theorem dJx4a65c_add_72be8_16 : decode cJx4a65c_add_72be8 16 = .ok (.iload_n 3, 1) := by decide +kernel
theorem dJx4a65c_add_72be8_17 : decode cJx4a65c_add_72be8 17 = .ok (.iconst 1, 1) := by decide +kernel
theorem dJx4a65c_add_72be8_18 : decode cJx4a65c_add_72be8 18 = .ok (.iadd, 1) := by decide +kernel
theorem dJx4a65c_add_72be8_19 : decode cJx4a65c_add_72be8 19 = .ok (.putfield 48, 3) := by decide +kernel
theorem dJx4a65c_add_72be8_22 : decode cJx4a65c_add_72be8 22 = .ok (.return_, 1) := by decide +kernel
set_option maxRecDepth 20000 in
theorem ggJx4a65c_add_9ea2d_Jx4a65c_add_72be8 : GoodIn wsJx4a65c_add_9ea2d wsJx4a65c_add_72be8 := goodIn_r _ [9, 4, 10, 11, 12, 8, 13, 14, 15, 16, 17, 3, 18, 19, 20, 21, 22, 23, 24, 25, 26, 27, 28, 29, 30, 31, 32, 33, 34, 35, 36, 37, 38, 39, 40, 41, 42, 43, 44, 45, 46, 47, 48, 49, 50, 51, 52, 53, 54, 55] (by decide +kernel) (by decide +kernel)
set_option maxRecDepth 20000 in
theorem gJx4a65c_add_9ea2d_Jx4a65c_add_72be8 : GoodIn wsJx4a65c_add_9ea2d (wsV RJx4a65c 131 RJx4a65c yJx4a65c_add_72be8 wsJx4a65c_add_72be8) := goodIn_app (goodIn_of _ (by decide +kernel)) ggJx4a65c_add_9ea2d_Jx4a65c_add_72be8
theorem dJx4a65c_add_9ea2d_0 : decode cJx4a65c_add_9ea2d 0 = .ok (.aload_n 0, 1) := by decide +kernel
theorem dJx4a65c_add_9ea2d_1 : decode cJx4a65c_add_9ea2d 1 = .ok (.dup, 1) := by decide +kernel
theorem dJx4a65c_add_9ea2d_2 : decode cJx4a65c_add_9ea2d 2 = .ok (.getfield 63, 3) := by decide +kernel
theorem dJx4a65c_add_9ea2d_5 : decode cJx4a65c_add_9ea2d 5 = .ok (.iconst 1, 1) := by decide +kernel
theorem dJx4a65c_add_9ea2d_6 : decode cJx4a65c_add_9ea2d 6 = .ok (.iadd, 1) := by decide +kernel
theorem dJx4a65c_add_9ea2d_7 : decode cJx4a65c_add_9ea2d 7 = .ok (.putfield 63, 3) := by decide +kernel
theorem dJx4a65c_add_9ea2d_10 : decode cJx4a65c_add_9ea2d 10 = .ok (.aload_n 0, 1) := by decide +kernel
theorem dJx4a65c_add_9ea2d_11 : decode cJx4a65c_add_9ea2d 11 = .ok (.aload_n 1, 1) := by decide +kernel
theorem dJx4a65c_add_9ea2d_12 : decode cJx4a65c_add_9ea2d 12 = .ok (.aload_n 0, 1) := by decide +kernel
theorem dJx4a65c_add_9ea2d_13 : decode cJx4a65c_add_9ea2d 13 = .ok (.getfield 9, 3) := by decide +kernel
theorem dJx4a65c_add_9ea2d_16 : decode cJx4a65c_add_9ea2d 16 = .ok (.aload_n 0, 1) := by decide +kernel
theorem dJx4a65c_add_9ea2d_17 : decode cJx4a65c_add_9ea2d 17 = .ok (.getfield 48, 3) := by decide +kernel
theorem dJx4a65c_add_9ea2d_20 : decode cJx4a65c_add_9ea2d 20 = .ok (.invokevirtual 131, 3) := by decide +kernel
theorem dJx4a65c_add_9ea2d_23 : decode cJx4a65c_add_9ea2d 23 = .ok (.iconst 1, 1) := by decide +kernel
theorem dJx4a65c_add_9ea2d_24 : decode cJx4a65c_add_9ea2d 24 = .ok (.ireturn, 1) := by decide +kernel
set_option maxRecDepth 20000 in
theorem ggJx4a65c_add_7a177_Jx4a65c_rangeCheckForAdd_d00df : GoodIn wsJx4a65c_add_7a177 wsJx4a65c_rangeCheckForAdd_d00df := goodIn_r _ [13, 3, 54, 55, 56] (by decide +kernel) (by decide +kernel)
set_option maxRecDepth 20000 in
theorem gJx4a65c_add_7a177_Jx4a65c_rangeCheckForAdd_d00df : GoodIn wsJx4a65c_add_7a177 (wsV RJx4a65c 135 RJx4a65c yJx4a65c_rangeCheckForAdd_d00df wsJx4a65c_rangeCheckForAdd_d00df) := goodIn_app (goodIn_of _ (by decide +kernel)) ggJx4a65c_add_7a177_Jx4a65c_rangeCheckForAdd_d00df
set_option maxRecDepth 20000 in
theorem ggJx4a65c_add_7a177_Jx4a65c_grow_d5877 : GoodIn wsJx4a65c_add_7a177 wsJx4a65c_grow_d5877 := goodIn_r _ [17, 3, 18, 19, 20, 12, 21, 4, 22, 23, 24, 25, 26, 27, 28, 29, 30, 31, 32, 33, 34, 35, 36, 37, 38, 39, 40, 41, 42, 43, 44, 45, 46, 47, 48, 49, 50, 51, 52, 53, 6, 7, 8, 54, 55, 56] (by decide +kernel) (by decide +kernel)
set_option maxRecDepth 20000 in
theorem gJx4a65c_add_7a177_Jx4a65c_grow_d5877 : GoodIn wsJx4a65c_add_7a177 (wsV RJx4a65c 129 RJx4a65c yJx4a65c_grow_d5877 wsJx4a65c_grow_d5877) := goodIn_app (goodIn_of _ (by decide +kernel)) ggJx4a65c_add_7a177_Jx4a65c_grow_d5877
theorem dJx4a65c_add_7a177_0 : decode cJx4a65c_add_7a177 0 = .ok (.aload_n 0, 1) := by decide +kernel
theorem dJx4a65c_add_7a177_1 : decode cJx4a65c_add_7a177 1 = .ok (.iload_n 1, 1) := by decide +kernel
theorem dJx4a65c_add_7a177_2 : decode cJx4a65c_add_7a177 2 = .ok (.invokevirtual 135, 3) := by decide +kernel
theorem dJx4a65c_add_7a177_5 : decode cJx4a65c_add_7a177 5 = .ok (.aload_n 0, 1) := by decide +kernel
theorem dJx4a65c_add_7a177_6 : decode cJx4a65c_add_7a177 6 = .ok (.dup, 1) := by decide +kernel
theorem dJx4a65c_add_7a177_7 : decode cJx4a65c_add_7a177 7 = .ok (.getfield 63, 3) := by decide +kernel
theorem dJx4a65c_add_7a177_10 : decode cJx4a65c_add_7a177 10 = .ok (.iconst 1, 1) := by decide +kernel
theorem dJx4a65c_add_7a177_11 : decode cJx4a65c_add_7a177 11 = .ok (.iadd, 1) := by decide +kernel
theorem dJx4a65c_add_7a177_12 : decode cJx4a65c_add_7a177 12 = .ok (.putfield 63, 3) := by decide +kernel
theorem dJx4a65c_add_7a177_15 : decode cJx4a65c_add_7a177 15 = .ok (.aload_n 0, 1) := by decide +kernel
theorem dJx4a65c_add_7a177_16 : decode cJx4a65c_add_7a177 16 = .ok (.getfield 48, 3) := by decide +kernel
theorem dJx4a65c_add_7a177_19 : decode cJx4a65c_add_7a177 19 = .ok (.dup, 1) := by decide +kernel
theorem dJx4a65c_add_7a177_20 : decode cJx4a65c_add_7a177 20 = .ok (.istore_n 3, 1) := by decide +kernel
theorem dJx4a65c_add_7a177_21 : decode cJx4a65c_add_7a177 21 = .ok (.aload_n 0, 1) := by decide +kernel
theorem dJx4a65c_add_7a177_22 : decode cJx4a65c_add_7a177 22 = .ok (.getfield 9, 3) := by decide +kernel
theorem dJx4a65c_add_7a177_25 : decode cJx4a65c_add_7a177 25 = .ok (.dup, 1) := by decide +kernel
theorem dJx4a65c_add_7a177_26 : decode cJx4a65c_add_7a177 26 = .ok (.astore 4, 2) := by decide +kernel
theorem dJx4a65c_add_7a177_28 : decode cJx4a65c_add_7a177 28 = .ok (.arraylength, 1) := by decide +kernel
theorem dJx4a65c_add_7a177_29 : decode cJx4a65c_add_7a177 29 = .ok (.if_icmp .ne 9, 3) := by decide +kernel
theorem dJx4a65c_add_7a177_32 : decode cJx4a65c_add_7a177 32 = .ok (.aload_n 0, 1) := by decide +kernel
theorem dJx4a65c_add_7a177_33 : decode cJx4a65c_add_7a177 33 = .ok (.invokevirtual 129, 3) := by decide +kernel
theorem dJx4a65c_add_7a177_36 : decode cJx4a65c_add_7a177 36 = .ok (.astore 4, 2) := by decide +kernel
theorem dJx4a65c_add_7a177_38 : decode cJx4a65c_add_7a177 38 = .ok (.aload 4, 2) := by decide +kernel
theorem dJx4a65c_add_7a177_40 : decode cJx4a65c_add_7a177 40 = .ok (.iload_n 1, 1) := by decide +kernel
theorem dJx4a65c_add_7a177_41 : decode cJx4a65c_add_7a177 41 = .ok (.aload 4, 2) := by decide +kernel
theorem dJx4a65c_add_7a177_43 : decode cJx4a65c_add_7a177 43 = .ok (.iload_n 1, 1) := by decide +kernel
theorem dJx4a65c_add_7a177_44 : decode cJx4a65c_add_7a177 44 = .ok (.iconst 1, 1) := by decide +kernel
theorem dJx4a65c_add_7a177_45 : decode cJx4a65c_add_7a177 45 = .ok (.iadd, 1) := by decide +kernel
theorem dJx4a65c_add_7a177_46 : decode cJx4a65c_add_7a177 46 = .ok (.iload_n 3, 1) := by decide +kernel
theorem dJx4a65c_add_7a177_47 : decode cJx4a65c_add_7a177 47 = .ok (.iload_n 1, 1) := by decide +kernel
theorem dJx4a65c_add_7a177_48 : decode cJx4a65c_add_7a177 48 = .ok (.isub, 1) := by decide +kernel
theorem dJx4a65c_add_7a177_49 : decode cJx4a65c_add_7a177 49 = .ok (.invokestatic 112, 3) := by decide +kernel
theorem dJx4a65c_add_7a177_52 : decode cJx4a65c_add_7a177 52 = .ok (.aload 4, 2) := by decide +kernel
theorem dJx4a65c_add_7a177_54 : decode cJx4a65c_add_7a177 54 = .ok (.iload_n 1, 1) := by decide +kernel
theorem dJx4a65c_add_7a177_55 : decode cJx4a65c_add_7a177 55 = .ok (.aload_n 2, 1) := by decide +kernel
theorem dJx4a65c_add_7a177_56 : decode cJx4a65c_add_7a177 56 = .ok (.aastore, 1) := by decide +kernel
theorem dJx4a65c_add_7a177_57 : decode cJx4a65c_add_7a177 57 = .ok (.aload_n 0, 1) := by decide +kernel
theorem dJx4a65c_add_7a177_58 : decode cJx4a65c_add_7a177 58 = .ok (.iload_n 3, 1) := by decide +kernel
theorem dJx4a65c_add_7a177_59 : decode cJx4a65c_add_7a177 59 = .ok (.iconst 1, 1) := by decide +kernel
theorem dJx4a65c_add_7a177_60 : decode cJx4a65c_add_7a177 60 = .ok (.iadd, 1) := by decide +kernel
theorem dJx4a65c_add_7a177_61 : decode cJx4a65c_add_7a177 61 = .ok (.putfield 48, 3) := by decide +kernel
theorem dJx4a65c_add_7a177_64 : decode cJx4a65c_add_7a177 64 = .ok (.return_, 1) := by decide +kernel
theorem dJx4a65c_rangeCheckForAdd_d00df_0 : decode cJx4a65c_rangeCheckForAdd_d00df 0 = .ok (.iload_n 1, 1) := by decide +kernel
theorem dJx4a65c_rangeCheckForAdd_d00df_1 : decode cJx4a65c_rangeCheckForAdd_d00df 1 = .ok (.aload_n 0, 1) := by decide +kernel
theorem dJx4a65c_rangeCheckForAdd_d00df_2 : decode cJx4a65c_rangeCheckForAdd_d00df 2 = .ok (.getfield 48, 3) := by decide +kernel
theorem dJx4a65c_rangeCheckForAdd_d00df_5 : decode cJx4a65c_rangeCheckForAdd_d00df 5 = .ok (.if_icmp .gt 7, 3) := by decide +kernel
theorem dJx4a65c_rangeCheckForAdd_d00df_8 : decode cJx4a65c_rangeCheckForAdd_d00df 8 = .ok (.iload_n 1, 1) := by decide +kernel
theorem dJx4a65c_rangeCheckForAdd_d00df_9 : decode cJx4a65c_rangeCheckForAdd_d00df 9 = .ok (.ifCond .ge 16, 3) := by decide +kernel
theorem dJx4a65c_rangeCheckForAdd_d00df_12 : decode cJx4a65c_rangeCheckForAdd_d00df 12 = .ok (.new 187, 3) := by decide +kernel
theorem dJx4a65c_rangeCheckForAdd_d00df_15 : decode cJx4a65c_rangeCheckForAdd_d00df 15 = .ok (.dup, 1) := by decide +kernel
theorem dJx4a65c_rangeCheckForAdd_d00df_16 : decode cJx4a65c_rangeCheckForAdd_d00df 16 = .ok (.aload_n 0, 1) := by decide +kernel
theorem dJx4a65c_rangeCheckForAdd_d00df_17 : decode cJx4a65c_rangeCheckForAdd_d00df 17 = .ok (.iload_n 1, 1) := by decide +kernel
theorem dJx4a65c_rangeCheckForAdd_d00df_18 : decode cJx4a65c_rangeCheckForAdd_d00df 18 = .ok (.invokevirtual 198, 3) := by decide +kernel
theorem dJx4a65c_rangeCheckForAdd_d00df_21 : decode cJx4a65c_rangeCheckForAdd_d00df 21 = .ok (.invokespecial 193, 3) := by decide +kernel
theorem dJx4a65c_rangeCheckForAdd_d00df_24 : decode cJx4a65c_rangeCheckForAdd_d00df 24 = .ok (.athrow, 1) := by decide +kernel
theorem dJx4a65c_rangeCheckForAdd_d00df_25 : decode cJx4a65c_rangeCheckForAdd_d00df 25 = .ok (.return_, 1) := by decide +kernel
set_option maxRecDepth 20000 in
theorem ggJx4a65c_outOfBoundsMsg_b52d3_J4_init_da8c8 : GoodIn wsJx4a65c_outOfBoundsMsg_b52d3 wsJ4_init_da8c8 := goodIn_r _ [7, 8, 9, 10, 11, 12, 13, 14, 15, 16, 17, 18, 19, 20, 21, 22, 23, 24, 25, 26, 237, 238, 239, 240] (by decide +kernel) (by decide +kernel)
set_option maxRecDepth 20000 in
theorem gJx4a65c_outOfBoundsMsg_b52d3_J4_init_da8c8 : GoodIn wsJx4a65c_outOfBoundsMsg_b52d3 (wsJ4_init_da8c8) := ggJx4a65c_outOfBoundsMsg_b52d3_J4_init_da8c8
set_option maxRecDepth 20000 in
theorem ggJx4a65c_outOfBoundsMsg_b52d3_J4_append_15ec4 : GoodIn wsJx4a65c_outOfBoundsMsg_b52d3 wsJ4_append_15ec4 := goodIn_r _ [30, 31, 32, 33, 34, 10, 35, 36, 37, 38, 39, 40, 41, 17, 42, 43, 44, 45, 46, 18, 47, 48, 49, 50, 51, 52, 53, 54, 55, 56, 57, 58, 59, 60, 61, 62, 63, 64, 65, 66, 67, 68, 69, 70, 71, 72, 73, 74, 16, 75, 76, 77, 78, 79, 80, 81, 82, 83, 84, 85, 86, 15, 87, 88, 21, 89, 90, 91, 92, 93, 94, 95, 96, 97, 98, 99, 100, 101, 102, 103, 104, 105, 106, 107, 108, 109, 110, 111, 112, 113, 114, 115, 116, 117, 118, 119, 120, 121, 122, 123, 124, 125, 126, 127, 128, 129, 130, 131, 132, 133, 134, 135, 136, 137, 19, 20, 22, 23, 24, 25, 26, 138, 139, 140, 141, 142, 143, 144, 145, 146, 147, 148, 149, 150, 151, 152, 153, 154, 155, 156, 157, 158, 159, 237, 238, 239, 240, 244, 245, 246, 247] (by decide +kernel) (by decide +kernel)
set_option maxRecDepth 20000 in
theorem gJx4a65c_outOfBoundsMsg_b52d3_J4_append_15ec4 : GoodIn wsJx4a65c_outOfBoundsMsg_b52d3 (wsV RJx4a65c 25 RJ4 yJ4_append_15ec4 wsJ4_append_15ec4) := goodIn_app (goodIn_of _ (by decide +kernel)) ggJx4a65c_outOfBoundsMsg_b52d3_J4_append_15ec4
set_option maxRecDepth 20000 in
theorem ggJx4a65c_outOfBoundsMsg_b52d3_J4_append_bf812 : GoodIn wsJx4a65c_outOfBoundsMsg_b52d3 wsJ4_append_bf812 := goodIn_r _ [163, 164, 165, 33, 166, 10, 167, 36, 17, 168, 169, 170, 171, 42, 43, 44, 45, 46, 18, 47, 48, 49, 50, 51, 52, 53, 54, 55, 56, 57, 58, 59, 60, 61, 62, 63, 64, 65, 66, 67, 68, 69, 70, 71, 72, 73, 74, 16, 75, 76, 77, 78, 79, 80, 81, 82, 83, 84, 85, 86, 15, 172, 173, 174, 175, 176, 177, 178, 21, 179, 90, 91, 92, 93, 94, 95, 96, 97, 98, 99, 100, 101, 102, 103, 104, 105, 180, 181, 182, 183, 184, 106, 107, 108, 109, 110, 237, 238, 239, 240] (by decide +kernel) (by decide +kernel)
set_option maxRecDepth 20000 in
theorem gJx4a65c_outOfBoundsMsg_b52d3_J4_append_bf812 : GoodIn wsJx4a65c_outOfBoundsMsg_b52d3 (wsV RJx4a65c 29 RJ4 yJ4_append_bf812 wsJ4_append_bf812) := goodIn_app (goodIn_of _ (by decide +kernel)) ggJx4a65c_outOfBoundsMsg_b52d3_J4_append_bf812
set_option maxRecDepth 20000 in
theorem ggJx4a65c_outOfBoundsMsg_b52d3_J4_toString_0e30d : GoodIn wsJx4a65c_outOfBoundsMsg_b52d3 wsJ4_toString_0e30d := goodIn_r _ [188, 189, 190, 99, 191, 192, 193, 194, 195, 196, 197, 13, 14, 121, 115, 120, 198, 199, 200, 201, 202, 10, 203, 17, 204, 205, 206, 207, 208, 3, 209, 210, 33, 211, 212, 36, 213, 83, 84, 85, 86, 15, 18, 214, 215, 67, 216, 69, 70, 71, 72, 73, 74, 217, 218, 219, 16, 75, 76, 59, 77, 78, 79, 80, 81, 220, 221, 222, 223, 2, 224, 225, 21, 226, 227, 228, 229, 145, 146, 147, 94, 95, 96, 148, 149, 150, 101, 151, 152, 104, 153, 230, 231, 232, 90, 109, 110, 23, 24, 25, 26, 233, 234, 235, 236, 244, 245, 246, 247, 237, 238, 239, 240] (by decide +kernel) (by decide +kernel)
set_option maxRecDepth 20000 in
theorem gJx4a65c_outOfBoundsMsg_b52d3_J4_toString_0e30d : GoodIn wsJx4a65c_outOfBoundsMsg_b52d3 (wsV RJx4a65c 32 RJ4 yJ4_toString_0e30d wsJ4_toString_0e30d) := goodIn_app (goodIn_of _ (by decide +kernel)) ggJx4a65c_outOfBoundsMsg_b52d3_J4_toString_0e30d
theorem dJx4a65c_outOfBoundsMsg_b52d3_0 : decode cJx4a65c_outOfBoundsMsg_b52d3 0 = .ok (.new 20, 3) := by decide +kernel
theorem dJx4a65c_outOfBoundsMsg_b52d3_3 : decode cJx4a65c_outOfBoundsMsg_b52d3 3 = .ok (.dup, 1) := by decide +kernel
theorem dJx4a65c_outOfBoundsMsg_b52d3_4 : decode cJx4a65c_outOfBoundsMsg_b52d3 4 = .ok (.invokespecial 22, 3) := by decide +kernel
theorem dJx4a65c_outOfBoundsMsg_b52d3_7 : decode cJx4a65c_outOfBoundsMsg_b52d3 7 = .ok (.ldc 201, 2) := by decide +kernel
theorem dJx4a65c_outOfBoundsMsg_b52d3_9 : decode cJx4a65c_outOfBoundsMsg_b52d3 9 = .ok (.invokevirtual 25, 3) := by decide +kernel
theorem dJx4a65c_outOfBoundsMsg_b52d3_12 : decode cJx4a65c_outOfBoundsMsg_b52d3 12 = .ok (.iload_n 1, 1) := by decide +kernel
theorem dJx4a65c_outOfBoundsMsg_b52d3_13 : decode cJx4a65c_outOfBoundsMsg_b52d3 13 = .ok (.invokevirtual 29, 3) := by decide +kernel
theorem dJx4a65c_outOfBoundsMsg_b52d3_16 : decode cJx4a65c_outOfBoundsMsg_b52d3 16 = .ok (.ldc 203, 2) := by decide +kernel
theorem dJx4a65c_outOfBoundsMsg_b52d3_18 : decode cJx4a65c_outOfBoundsMsg_b52d3 18 = .ok (.invokevirtual 25, 3) := by decide +kernel
theorem dJx4a65c_outOfBoundsMsg_b52d3_21 : decode cJx4a65c_outOfBoundsMsg_b52d3 21 = .ok (.aload_n 0, 1) := by decide +kernel
theorem dJx4a65c_outOfBoundsMsg_b52d3_22 : decode cJx4a65c_outOfBoundsMsg_b52d3 22 = .ok (.getfield 48, 3) := by decide +kernel
theorem dJx4a65c_outOfBoundsMsg_b52d3_25 : decode cJx4a65c_outOfBoundsMsg_b52d3 25 = .ok (.invokevirtual 29, 3) := by decide +kernel
theorem dJx4a65c_outOfBoundsMsg_b52d3_28 : decode cJx4a65c_outOfBoundsMsg_b52d3 28 = .ok (.invokevirtual 32, 3) := by decide +kernel
theorem dJx4a65c_outOfBoundsMsg_b52d3_31 : decode cJx4a65c_outOfBoundsMsg_b52d3 31 = .ok (.areturn, 1) := by decide +kernel
theorem dJ7_fill_53178_0 : decode cJ7_fill_53178 0 = .ok (.iconst 0, 1) := by decide +kernel
theorem dJ7_fill_53178_1 : decode cJ7_fill_53178 1 = .ok (.istore_n 2, 1) := by decide +kernel
theorem dJ7_fill_53178_2 : decode cJ7_fill_53178 2 = .ok (.aload_n 0, 1) := by decide +kernel
theorem dJ7_fill_53178_3 : decode cJ7_fill_53178 3 = .ok (.arraylength, 1) := by decide +kernel
theorem dJ7_fill_53178_4 : decode cJ7_fill_53178 4 = .ok (.istore_n 3, 1) := by decide +kernel
theorem dJ7_fill_53178_5 : decode cJ7_fill_53178 5 = .ok (.iload_n 2, 1) := by decide +kernel
theorem dJ7_fill_53178_6 : decode cJ7_fill_53178 6 = .ok (.iload_n 3, 1) := by decide +kernel
theorem dJ7_fill_53178_7 : decode cJ7_fill_53178 7 = .ok (.if_icmp .ge 13, 3) := by decide +kernel
theorem dJ7_fill_53178_10 : decode cJ7_fill_53178 10 = .ok (.aload_n 0, 1) := by decide +kernel
theorem dJ7_fill_53178_11 : decode cJ7_fill_53178 11 = .ok (.iload_n 2, 1) := by decide +kernel
theorem dJ7_fill_53178_12 : decode cJ7_fill_53178 12 = .ok (.iload_n 1, 1) := by decide +kernel
theorem dJ7_fill_53178_13 : decode cJ7_fill_53178 13 = .ok (.iastore, 1) := by decide +kernel
theorem dJ7_fill_53178_14 : decode cJ7_fill_53178 14 = .ok (.iinc 2 1, 3) := by decide +kernel
theorem dJ7_fill_53178_17 : decode cJ7_fill_53178 17 = .ok (.goto (-12), 3) := by decide +kernel
theorem dJ7_fill_53178_20 : decode cJ7_fill_53178 20 = .ok (.return_, 1) := by decide +kernel
set_option maxRecDepth 20000 in
theorem ggJ7_copyOf_1904c_J7_copyOf_6403c : GoodIn wsJ7_copyOf_1904c wsJ7_copyOf_6403c := goodIn_r _ [8, 9, 10, 11, 12, 13, 14, 15, 16, 17, 18] (by decide +kernel) (by decide +kernel)
set_option maxRecDepth 20000 in
theorem gJ7_copyOf_1904c_J7_copyOf_6403c : GoodIn wsJ7_copyOf_1904c (va_wsS RJ7 300 yJ7_copyOf_6403c wsJ7_copyOf_6403c) := goodIn_app (goodIn_of _ (by decide +kernel)) ggJ7_copyOf_1904c_J7_copyOf_6403c
theorem dJ7_copyOf_1904c_0 : decode cJ7_copyOf_1904c 0 = .ok (.aload_n 0, 1) := by decide +kernel
theorem dJ7_copyOf_1904c_1 : decode cJ7_copyOf_1904c 1 = .ok (.iload_n 1, 1) := by decide +kernel
theorem dJ7_copyOf_1904c_2 : decode cJ7_copyOf_1904c 2 = .ok (.aload_n 0, 1) := by decide +kernel
theorem dJ7_copyOf_1904c_3 : decode cJ7_copyOf_1904c 3 = .ok (.invokevirtual 86, 3) := by decide +kernel
theorem dJ7_copyOf_1904c_6 : decode cJ7_copyOf_1904c 6 = .ok (.invokestatic 300, 3) := by decide +kernel
theorem dJ7_copyOf_1904c_9 : decode cJ7_copyOf_1904c 9 = .ok (.areturn, 1) := by decide +kernel
theorem dJ7_copyOf_6403c_0 : decode cJ7_copyOf_6403c 0 = .ok (.aload_n 2, 1) := by decide +kernel
theorem dJ7_copyOf_6403c_1 : decode cJ7_copyOf_6403c 1 = .ok (.ldc 110, 2) := by decide +kernel
theorem dJ7_copyOf_6403c_3 : decode cJ7_copyOf_6403c 3 = .ok (.if_acmp .ne 10, 3) := by decide +kernel
theorem dJ7_copyOf_6403c_6 : decode cJ7_copyOf_6403c 6 = .ok (.iload_n 1, 1) := by decide +kernel
theorem dJ7_copyOf_6403c_7 : decode cJ7_copyOf_6403c 7 = .ok (.anewarray 2, 3) := by decide +kernel
theorem dJ7_copyOf_6403c_10 : decode cJ7_copyOf_6403c 10 = .ok (.goto 14, 3) := by decide +kernel
theorem dJ7_copyOf_6403c_13 : decode cJ7_copyOf_6403c 13 = .ok (.aload_n 2, 1) := by decide +kernel
theorem dJ7_copyOf_6403c_14 : decode cJ7_copyOf_6403c 14 = .ok (.invokevirtual 90, 3) := by decide +kernel
theorem dJ7_copyOf_6403c_17 : decode cJ7_copyOf_6403c 17 = .ok (.iload_n 1, 1) := by decide +kernel
theorem dJ7_copyOf_6403c_18 : decode cJ7_copyOf_6403c 18 = .ok (.invokestatic 95, 3) := by decide +kernel
theorem dJ7_copyOf_6403c_21 : decode cJ7_copyOf_6403c 21 = .ok (.checkcast 110, 3) := by decide +kernel
theorem dJ7_copyOf_6403c_24 : decode cJ7_copyOf_6403c 24 = .ok (.astore_n 3, 1) := by decide +kernel
theorem dJ7_copyOf_6403c_25 : decode cJ7_copyOf_6403c 25 = .ok (.aload_n 0, 1) := by decide +kernel
theorem dJ7_copyOf_6403c_26 : decode cJ7_copyOf_6403c 26 = .ok (.iconst 0, 1) := by decide +kernel
theorem dJ7_copyOf_6403c_27 : decode cJ7_copyOf_6403c 27 = .ok (.aload_n 3, 1) := by decide +kernel
theorem dJ7_copyOf_6403c_28 : decode cJ7_copyOf_6403c 28 = .ok (.iconst 0, 1) := by decide +kernel
theorem dJ7_copyOf_6403c_29 : decode cJ7_copyOf_6403c 29 = .ok (.aload_n 0, 1) := by decide +kernel
theorem dJ7_copyOf_6403c_30 : decode cJ7_copyOf_6403c 30 = .ok (.arraylength, 1) := by decide +kernel
theorem dJ7_copyOf_6403c_31 : decode cJ7_copyOf_6403c 31 = .ok (.iload_n 1, 1) := by decide +kernel
theorem dJ7_copyOf_6403c_32 : decode cJ7_copyOf_6403c 32 = .ok (.invokestatic 304, 3) := by decide +kernel
theorem dJ7_copyOf_6403c_35 : decode cJ7_copyOf_6403c 35 = .ok (.invokestatic 150, 3) := by decide +kernel
theorem dJ7_copyOf_6403c_38 : decode cJ7_copyOf_6403c 38 = .ok (.aload_n 3, 1) := by decide +kernel
theorem dJ7_copyOf_6403c_39 : decode cJ7_copyOf_6403c 39 = .ok (.areturn, 1) := by decide +kernel
theorem dJ7_copyOf_9075b_0 : decode cJ7_copyOf_9075b 0 = .ok (.iload_n 1, 1) := by decide +kernel
theorem dJ7_copyOf_9075b_1 : decode cJ7_copyOf_9075b 1 = .ok (.aload_n 0, 1) := by decide +kernel
theorem dJ7_copyOf_9075b_2 : decode cJ7_copyOf_9075b 2 = .ok (.arraylength, 1) := by decide +kernel
theorem dJ7_copyOf_9075b_3 : decode cJ7_copyOf_9075b 3 = .ok (.if_icmp .ne 11, 3) := by decide +kernel
theorem dJ7_copyOf_9075b_6 : decode cJ7_copyOf_9075b 6 = .ok (.aload_n 0, 1) := by decide +kernel
theorem dJ7_copyOf_9075b_7 : decode cJ7_copyOf_9075b 7 = .ok (.invokevirtual 310, 3) := by decide +kernel
theorem dJ7_copyOf_9075b_10 : decode cJ7_copyOf_9075b 10 = .ok (.checkcast 311, 3) := by decide +kernel
theorem dJ7_copyOf_9075b_13 : decode cJ7_copyOf_9075b 13 = .ok (.areturn, 1) := by decide +kernel
theorem dJ7_copyOf_9075b_14 : decode cJ7_copyOf_9075b 14 = .ok (.iload_n 1, 1) := by decide +kernel
theorem dJ7_copyOf_9075b_15 : decode cJ7_copyOf_9075b 15 = .ok (.newarray .byte, 2) := by decide +kernel
theorem dJ7_copyOf_9075b_17 : decode cJ7_copyOf_9075b 17 = .ok (.astore_n 2, 1) := by decide +kernel
theorem dJ7_copyOf_9075b_18 : decode cJ7_copyOf_9075b 18 = .ok (.aload_n 0, 1) := by decide +kernel
theorem dJ7_copyOf_9075b_19 : decode cJ7_copyOf_9075b 19 = .ok (.iconst 0, 1) := by decide +kernel
theorem dJ7_copyOf_9075b_20 : decode cJ7_copyOf_9075b 20 = .ok (.aload_n 2, 1) := by decide +kernel
theorem dJ7_copyOf_9075b_21 : decode cJ7_copyOf_9075b 21 = .ok (.iconst 0, 1) := by decide +kernel
theorem dJ7_copyOf_9075b_22 : decode cJ7_copyOf_9075b 22 = .ok (.aload_n 0, 1) := by decide +kernel
theorem dJ7_copyOf_9075b_23 : decode cJ7_copyOf_9075b 23 = .ok (.arraylength, 1) := by decide +kernel
theorem dJ7_copyOf_9075b_24 : decode cJ7_copyOf_9075b 24 = .ok (.iload_n 1, 1) := by decide +kernel
theorem dJ7_copyOf_9075b_25 : decode cJ7_copyOf_9075b 25 = .ok (.invokestatic 304, 3) := by decide +kernel
theorem dJ7_copyOf_9075b_28 : decode cJ7_copyOf_9075b 28 = .ok (.invokestatic 150, 3) := by decide +kernel
theorem dJ7_copyOf_9075b_31 : decode cJ7_copyOf_9075b 31 = .ok (.aload_n 2, 1) := by decide +kernel
theorem dJ7_copyOf_9075b_32 : decode cJ7_copyOf_9075b 32 = .ok (.areturn, 1) := by decide +kernel
theorem dJ7_checkLength_df160_0 : decode cJ7_checkLength_df160 0 = .ok (.iload_n 1, 1) := by decide +kernel
theorem dJ7_checkLength_df160_1 : decode cJ7_checkLength_df160 1 = .ok (.iload_n 0, 1) := by decide +kernel
theorem dJ7_checkLength_df160_2 : decode cJ7_checkLength_df160 2 = .ok (.if_icmp .ge 35, 3) := by decide +kernel
theorem dJ7_checkLength_df160_5 : decode cJ7_checkLength_df160 5 = .ok (.new 43, 3) := by decide +kernel
theorem dJ7_checkLength_df160_8 : decode cJ7_checkLength_df160 8 = .ok (.dup, 1) := by decide +kernel
theorem dJ7_checkLength_df160_9 : decode cJ7_checkLength_df160 9 = .ok (.new 45, 3) := by decide +kernel
theorem dJ7_checkLength_df160_12 : decode cJ7_checkLength_df160 12 = .ok (.dup, 1) := by decide +kernel
theorem dJ7_checkLength_df160_13 : decode cJ7_checkLength_df160 13 = .ok (.invokespecial 47, 3) := by decide +kernel
theorem dJ7_checkLength_df160_16 : decode cJ7_checkLength_df160 16 = .ok (.iload_n 0, 1) := by decide +kernel
theorem dJ7_checkLength_df160_17 : decode cJ7_checkLength_df160 17 = .ok (.invokevirtual 54, 3) := by decide +kernel
theorem dJ7_checkLength_df160_20 : decode cJ7_checkLength_df160 20 = .ok (.ldc_w 337, 3) := by decide +kernel
theorem dJ7_checkLength_df160_23 : decode cJ7_checkLength_df160 23 = .ok (.invokevirtual 50, 3) := by decide +kernel
theorem dJ7_checkLength_df160_26 : decode cJ7_checkLength_df160 26 = .ok (.iload_n 1, 1) := by decide +kernel
theorem dJ7_checkLength_df160_27 : decode cJ7_checkLength_df160 27 = .ok (.invokevirtual 54, 3) := by decide +kernel
theorem dJ7_checkLength_df160_30 : decode cJ7_checkLength_df160 30 = .ok (.invokevirtual 61, 3) := by decide +kernel
theorem dJ7_checkLength_df160_33 : decode cJ7_checkLength_df160 33 = .ok (.invokespecial 65, 3) := by decide +kernel
theorem dJ7_checkLength_df160_36 : decode cJ7_checkLength_df160 36 = .ok (.athrow, 1) := by decide +kernel
theorem dJ7_checkLength_df160_37 : decode cJ7_checkLength_df160 37 = .ok (.return_, 1) := by decide +kernel
set_option maxRecDepth 20000 in
theorem ggJ7_copyOfRange_39247_J7_copyOfRangeByte_39247 : GoodIn wsJ7_copyOfRange_39247 wsJ7_copyOfRangeByte_39247 := goodIn_r _ [10, 11, 12, 13, 14, 15, 16, 17, 18, 19, 20, 21, 9, 22, 23, 24, 25, 26, 27, 28, 29] (by decide +kernel) (by decide +kernel)
set_option maxRecDepth 20000 in
theorem gJ7_copyOfRange_39247_J7_copyOfRangeByte_39247 : GoodIn wsJ7_copyOfRange_39247 (va_wsS RJ7 339 yJ7_copyOfRangeByte_39247 wsJ7_copyOfRangeByte_39247) := goodIn_app (goodIn_of _ (by decide +kernel)) ggJ7_copyOfRange_39247_J7_copyOfRangeByte_39247
theorem dJ7_copyOfRange_39247_0 : decode cJ7_copyOfRange_39247 0 = .ok (.iload_n 1, 1) := by decide +kernel
theorem dJ7_copyOfRange_39247_1 : decode cJ7_copyOfRange_39247 1 = .ok (.ifCond .ne 9, 3) := by decide +kernel
theorem dJ7_copyOfRange_39247_4 : decode cJ7_copyOfRange_39247 4 = .ok (.iload_n 2, 1) := by decide +kernel
theorem dJ7_copyOfRange_39247_5 : decode cJ7_copyOfRange_39247 5 = .ok (.aload_n 0, 1) := by decide +kernel
theorem dJ7_copyOfRange_39247_6 : decode cJ7_copyOfRange_39247 6 = .ok (.arraylength, 1) := by decide +kernel
theorem dJ7_copyOfRange_39247_7 : decode cJ7_copyOfRange_39247 7 = .ok (.if_icmp .eq 10, 3) := by decide +kernel
theorem dJ7_copyOfRange_39247_10 : decode cJ7_copyOfRange_39247 10 = .ok (.aload_n 0, 1) := by decide +kernel
theorem dJ7_copyOfRange_39247_11 : decode cJ7_copyOfRange_39247 11 = .ok (.iload_n 1, 1) := by decide +kernel
theorem dJ7_copyOfRange_39247_12 : decode cJ7_copyOfRange_39247 12 = .ok (.iload_n 2, 1) := by decide +kernel
theorem dJ7_copyOfRange_39247_13 : decode cJ7_copyOfRange_39247 13 = .ok (.invokestatic 339, 3) := by decide +kernel
theorem dJ7_copyOfRange_39247_16 : decode cJ7_copyOfRange_39247 16 = .ok (.areturn, 1) := by decide +kernel
theorem dJ7_copyOfRange_39247_17 : decode cJ7_copyOfRange_39247 17 = .ok (.aload_n 0, 1) := by decide +kernel
theorem dJ7_copyOfRange_39247_18 : decode cJ7_copyOfRange_39247 18 = .ok (.invokevirtual 310, 3) := by decide +kernel
theorem dJ7_copyOfRange_39247_21 : decode cJ7_copyOfRange_39247 21 = .ok (.checkcast 311, 3) := by decide +kernel
theorem dJ7_copyOfRange_39247_24 : decode cJ7_copyOfRange_39247 24 = .ok (.areturn, 1) := by decide +kernel
set_option maxRecDepth 20000 in
theorem ggJ7_copyOfRangeByte_39247_J7_checkLength_df160 : GoodIn wsJ7_copyOfRangeByte_39247 wsJ7_checkLength_df160 := goodIn_r _ [13, 14, 15, 16, 17, 18, 19, 20] (by decide +kernel) (by decide +kernel)
set_option maxRecDepth 20000 in
theorem gJ7_copyOfRangeByte_39247_J7_checkLength_df160 : GoodIn wsJ7_copyOfRangeByte_39247 (va_wsS RJ7 343 yJ7_checkLength_df160 wsJ7_checkLength_df160) := goodIn_app (goodIn_of _ (by decide +kernel)) ggJ7_copyOfRangeByte_39247_J7_checkLength_df160
theorem dJ7_copyOfRangeByte_39247_0 : decode cJ7_copyOfRangeByte_39247 0 = .ok (.iload_n 1, 1) := by decide +kernel
theorem dJ7_copyOfRangeByte_39247_1 : decode cJ7_copyOfRangeByte_39247 1 = .ok (.iload_n 2, 1) := by decide +kernel
theorem dJ7_copyOfRangeByte_39247_2 : decode cJ7_copyOfRangeByte_39247 2 = .ok (.invokestatic 343, 3) := by decide +kernel
theorem dJ7_copyOfRangeByte_39247_5 : decode cJ7_copyOfRangeByte_39247 5 = .ok (.iload_n 2, 1) := by decide +kernel
theorem dJ7_copyOfRangeByte_39247_6 : decode cJ7_copyOfRangeByte_39247 6 = .ok (.iload_n 1, 1) := by decide +kernel
theorem dJ7_copyOfRangeByte_39247_7 : decode cJ7_copyOfRangeByte_39247 7 = .ok (.isub, 1) := by decide +kernel
theorem dJ7_copyOfRangeByte_39247_8 : decode cJ7_copyOfRangeByte_39247 8 = .ok (.istore_n 3, 1) := by decide +kernel
theorem dJ7_copyOfRangeByte_39247_9 : decode cJ7_copyOfRangeByte_39247 9 = .ok (.iload_n 3, 1) := by decide +kernel
theorem dJ7_copyOfRangeByte_39247_10 : decode cJ7_copyOfRangeByte_39247 10 = .ok (.newarray .byte, 2) := by decide +kernel
theorem dJ7_copyOfRangeByte_39247_12 : decode cJ7_copyOfRangeByte_39247 12 = .ok (.astore 4, 2) := by decide +kernel
theorem dJ7_copyOfRangeByte_39247_14 : decode cJ7_copyOfRangeByte_39247 14 = .ok (.aload_n 0, 1) := by decide +kernel
theorem dJ7_copyOfRangeByte_39247_15 : decode cJ7_copyOfRangeByte_39247 15 = .ok (.iload_n 1, 1) := by decide +kernel
theorem dJ7_copyOfRangeByte_39247_16 : decode cJ7_copyOfRangeByte_39247 16 = .ok (.aload 4, 2) := by decide +kernel
theorem dJ7_copyOfRangeByte_39247_18 : decode cJ7_copyOfRangeByte_39247 18 = .ok (.iconst 0, 1) := by decide +kernel
theorem dJ7_copyOfRangeByte_39247_19 : decode cJ7_copyOfRangeByte_39247 19 = .ok (.aload_n 0, 1) := by decide +kernel
theorem dJ7_copyOfRangeByte_39247_20 : decode cJ7_copyOfRangeByte_39247 20 = .ok (.arraylength, 1) := by decide +kernel
theorem dJ7_copyOfRangeByte_39247_21 : decode cJ7_copyOfRangeByte_39247 21 = .ok (.iload_n 1, 1) := by decide +kernel
theorem dJ7_copyOfRangeByte_39247_22 : decode cJ7_copyOfRangeByte_39247 22 = .ok (.isub, 1) := by decide +kernel
theorem dJ7_copyOfRangeByte_39247_23 : decode cJ7_copyOfRangeByte_39247 23 = .ok (.iload_n 3, 1) := by decide +kernel
theorem dJ7_copyOfRangeByte_39247_24 : decode cJ7_copyOfRangeByte_39247 24 = .ok (.invokestatic 304, 3) := by decide +kernel
theorem dJ7_copyOfRangeByte_39247_27 : decode cJ7_copyOfRangeByte_39247 27 = .ok (.invokestatic 150, 3) := by decide +kernel
theorem dJ7_copyOfRangeByte_39247_30 : decode cJ7_copyOfRangeByte_39247 30 = .ok (.aload 4, 2) := by decide +kernel
theorem dJ7_copyOfRangeByte_39247_32 : decode cJ7_copyOfRangeByte_39247 32 = .ok (.areturn, 1) := by decide +kernel
set_option maxRecDepth 20000 in
theorem ggJ15_checkIndex_7cf53_J3_checkIndex_8e157 : GoodIn wsJ15_checkIndex_7cf53 wsJ3_checkIndex_8e157 := goodIn_r _ [4] (by decide +kernel) (by decide +kernel)
set_option maxRecDepth 20000 in
theorem gJ15_checkIndex_7cf53_J3_checkIndex_8e157 : GoodIn wsJ15_checkIndex_7cf53 (va_wsS RJ15 105 yJ3_checkIndex_8e157 wsJ3_checkIndex_8e157) := goodIn_app (goodIn_of _ (by decide +kernel)) ggJ15_checkIndex_7cf53_J3_checkIndex_8e157
theorem dJ15_checkIndex_7cf53_0 : decode cJ15_checkIndex_7cf53 0 = .ok (.iload_n 0, 1) := by decide +kernel
theorem dJ15_checkIndex_7cf53_1 : decode cJ15_checkIndex_7cf53 1 = .ok (.iload_n 1, 1) := by decide +kernel
theorem dJ15_checkIndex_7cf53_2 : decode cJ15_checkIndex_7cf53 2 = .ok (.aconst_null, 1) := by decide +kernel
theorem dJ15_checkIndex_7cf53_3 : decode cJ15_checkIndex_7cf53 3 = .ok (.invokestatic 105, 3) := by decide +kernel
theorem dJ15_checkIndex_7cf53_6 : decode cJ15_checkIndex_7cf53 6 = .ok (.ireturn, 1) := by decide +kernel
set_option maxRecDepth 20000 in
theorem ggJ8_newLength_cabcc_J8_hugeLength_7cf53 : GoodIn wsJ8_newLength_cabcc wsJ8_hugeLength_7cf53 := goodIn_r _ [9, 5] (by decide +kernel) (by decide +kernel)
set_option maxRecDepth 20000 in
theorem gJ8_newLength_cabcc_J8_hugeLength_7cf53 : GoodIn wsJ8_newLength_cabcc (va_wsS RJ8 201 yJ8_hugeLength_7cf53 wsJ8_hugeLength_7cf53) := goodIn_app (goodIn_of _ (by decide +kernel)) ggJ8_newLength_cabcc_J8_hugeLength_7cf53
theorem dJ8_newLength_cabcc_0 : decode cJ8_newLength_cabcc 0 = .ok (.iload_n 0, 1) := by decide +kernel
theorem dJ8_newLength_cabcc_1 : decode cJ8_newLength_cabcc 1 = .ok (.iload_n 1, 1) := by decide +kernel
theorem dJ8_newLength_cabcc_2 : decode cJ8_newLength_cabcc 2 = .ok (.iload_n 2, 1) := by decide +kernel
theorem dJ8_newLength_cabcc_3 : decode cJ8_newLength_cabcc 3 = .ok (.invokestatic 194, 3) := by decide +kernel
theorem dJ8_newLength_cabcc_6 : decode cJ8_newLength_cabcc 6 = .ok (.iadd, 1) := by decide +kernel
theorem dJ8_newLength_cabcc_7 : decode cJ8_newLength_cabcc 7 = .ok (.istore_n 3, 1) := by decide +kernel
theorem dJ8_newLength_cabcc_8 : decode cJ8_newLength_cabcc 8 = .ok (.iconst 0, 1) := by decide +kernel
theorem dJ8_newLength_cabcc_9 : decode cJ8_newLength_cabcc 9 = .ok (.iload_n 3, 1) := by decide +kernel
theorem dJ8_newLength_cabcc_10 : decode cJ8_newLength_cabcc 10 = .ok (.if_icmp .ge 11, 3) := by decide +kernel
theorem dJ8_newLength_cabcc_13 : decode cJ8_newLength_cabcc 13 = .ok (.iload_n 3, 1) := by decide +kernel
theorem dJ8_newLength_cabcc_14 : decode cJ8_newLength_cabcc 14 = .ok (.ldc 200, 2) := by decide +kernel
theorem dJ8_newLength_cabcc_16 : decode cJ8_newLength_cabcc 16 = .ok (.if_icmp .gt 5, 3) := by decide +kernel
theorem dJ8_newLength_cabcc_19 : decode cJ8_newLength_cabcc 19 = .ok (.iload_n 3, 1) := by decide +kernel
theorem dJ8_newLength_cabcc_20 : decode cJ8_newLength_cabcc 20 = .ok (.ireturn, 1) := by decide +kernel
theorem dJ8_newLength_cabcc_21 : decode cJ8_newLength_cabcc 21 = .ok (.iload_n 0, 1) := by decide +kernel
theorem dJ8_newLength_cabcc_22 : decode cJ8_newLength_cabcc 22 = .ok (.iload_n 1, 1) := by decide +kernel
theorem dJ8_newLength_cabcc_23 : decode cJ8_newLength_cabcc 23 = .ok (.invokestatic 201, 3) := by decide +kernel
theorem dJ8_newLength_cabcc_26 : decode cJ8_newLength_cabcc 26 = .ok (.ireturn, 1) := by decide +kernel
theorem dJ8_hugeLength_7cf53_0 : decode cJ8_hugeLength_7cf53 0 = .ok (.iload_n 0, 1) := by decide +kernel
theorem dJ8_hugeLength_7cf53_1 : decode cJ8_hugeLength_7cf53 1 = .ok (.iload_n 1, 1) := by decide +kernel
theorem dJ8_hugeLength_7cf53_2 : decode cJ8_hugeLength_7cf53 2 = .ok (.iadd, 1) := by decide +kernel
theorem dJ8_hugeLength_7cf53_3 : decode cJ8_hugeLength_7cf53 3 = .ok (.istore_n 2, 1) := by decide +kernel
theorem dJ8_hugeLength_7cf53_4 : decode cJ8_hugeLength_7cf53 4 = .ok (.iload_n 2, 1) := by decide +kernel
theorem dJ8_hugeLength_7cf53_5 : decode cJ8_hugeLength_7cf53 5 = .ok (.ifCond .ge 44, 3) := by decide +kernel
theorem dJ8_hugeLength_7cf53_8 : decode cJ8_hugeLength_7cf53 8 = .ok (.new 204, 3) := by decide +kernel
theorem dJ8_hugeLength_7cf53_11 : decode cJ8_hugeLength_7cf53 11 = .ok (.dup, 1) := by decide +kernel
theorem dJ8_hugeLength_7cf53_12 : decode cJ8_hugeLength_7cf53 12 = .ok (.new 89, 3) := by decide +kernel
theorem dJ8_hugeLength_7cf53_15 : decode cJ8_hugeLength_7cf53 15 = .ok (.dup, 1) := by decide +kernel
theorem dJ8_hugeLength_7cf53_16 : decode cJ8_hugeLength_7cf53 16 = .ok (.invokespecial 91, 3) := by decide +kernel
theorem dJ8_hugeLength_7cf53_19 : decode cJ8_hugeLength_7cf53 19 = .ok (.ldc 206, 2) := by decide +kernel
theorem dJ8_hugeLength_7cf53_21 : decode cJ8_hugeLength_7cf53 21 = .ok (.invokevirtual 94, 3) := by decide +kernel
theorem dJ8_hugeLength_7cf53_24 : decode cJ8_hugeLength_7cf53 24 = .ok (.iload_n 0, 1) := by decide +kernel
theorem dJ8_hugeLength_7cf53_25 : decode cJ8_hugeLength_7cf53 25 = .ok (.invokevirtual 98, 3) := by decide +kernel
theorem dJ8_hugeLength_7cf53_28 : decode cJ8_hugeLength_7cf53 28 = .ok (.ldc 208, 2) := by decide +kernel
theorem dJ8_hugeLength_7cf53_30 : decode cJ8_hugeLength_7cf53 30 = .ok (.invokevirtual 94, 3) := by decide +kernel
theorem dJ8_hugeLength_7cf53_33 : decode cJ8_hugeLength_7cf53 33 = .ok (.iload_n 1, 1) := by decide +kernel
theorem dJ8_hugeLength_7cf53_34 : decode cJ8_hugeLength_7cf53 34 = .ok (.invokevirtual 98, 3) := by decide +kernel
theorem dJ8_hugeLength_7cf53_37 : decode cJ8_hugeLength_7cf53 37 = .ok (.ldc 210, 2) := by decide +kernel
theorem dJ8_hugeLength_7cf53_39 : decode cJ8_hugeLength_7cf53 39 = .ok (.invokevirtual 94, 3) := by decide +kernel
theorem dJ8_hugeLength_7cf53_42 : decode cJ8_hugeLength_7cf53 42 = .ok (.invokevirtual 101, 3) := by decide +kernel
theorem dJ8_hugeLength_7cf53_45 : decode cJ8_hugeLength_7cf53 45 = .ok (.invokespecial 212, 3) := by decide +kernel
theorem dJ8_hugeLength_7cf53_48 : decode cJ8_hugeLength_7cf53 48 = .ok (.athrow, 1) := by decide +kernel
theorem dJ8_hugeLength_7cf53_49 : decode cJ8_hugeLength_7cf53 49 = .ok (.iload_n 2, 1) := by decide +kernel
theorem dJ8_hugeLength_7cf53_50 : decode cJ8_hugeLength_7cf53 50 = .ok (.ldc 200, 2) := by decide +kernel
theorem dJ8_hugeLength_7cf53_52 : decode cJ8_hugeLength_7cf53 52 = .ok (.if_icmp .gt 6, 3) := by decide +kernel
theorem dJ8_hugeLength_7cf53_55 : decode cJ8_hugeLength_7cf53 55 = .ok (.ldc 200, 2) := by decide +kernel
theorem dJ8_hugeLength_7cf53_57 : decode cJ8_hugeLength_7cf53 57 = .ok (.ireturn, 1) := by decide +kernel
theorem dJ8_hugeLength_7cf53_58 : decode cJ8_hugeLength_7cf53 58 = .ok (.iload_n 2, 1) := by decide +kernel
theorem dJ8_hugeLength_7cf53_59 : decode cJ8_hugeLength_7cf53 59 = .ok (.ireturn, 1) := by decide +kernel
theorem dJ3_checkIndex_8e157_0 : decode cJ3_checkIndex_8e157 0 = .ok (.iload_n 0, 1) := by decide +kernel
theorem dJ3_checkIndex_8e157_1 : decode cJ3_checkIndex_8e157 1 = .ok (.ifCond .lt 8, 3) := by decide +kernel
theorem dJ3_checkIndex_8e157_4 : decode cJ3_checkIndex_8e157 4 = .ok (.iload_n 0, 1) := by decide +kernel
theorem dJ3_checkIndex_8e157_5 : decode cJ3_checkIndex_8e157 5 = .ok (.iload_n 1, 1) := by decide +kernel
theorem dJ3_checkIndex_8e157_6 : decode cJ3_checkIndex_8e157 6 = .ok (.if_icmp .lt 10, 3) := by decide +kernel
theorem dJ3_checkIndex_8e157_9 : decode cJ3_checkIndex_8e157 9 = .ok (.aload_n 2, 1) := by decide +kernel
theorem dJ3_checkIndex_8e157_10 : decode cJ3_checkIndex_8e157 10 = .ok (.iload_n 0, 1) := by decide +kernel
theorem dJ3_checkIndex_8e157_11 : decode cJ3_checkIndex_8e157 11 = .ok (.iload_n 1, 1) := by decide +kernel
theorem dJ3_checkIndex_8e157_12 : decode cJ3_checkIndex_8e157 12 = .ok (.invokestatic 95, 3) := by decide +kernel
theorem dJ3_checkIndex_8e157_15 : decode cJ3_checkIndex_8e157 15 = .ok (.athrow, 1) := by decide +kernel
theorem dJ3_checkIndex_8e157_16 : decode cJ3_checkIndex_8e157 16 = .ok (.iload_n 0, 1) := by decide +kernel
theorem dJ3_checkIndex_8e157_17 : decode cJ3_checkIndex_8e157 17 = .ok (.ireturn, 1) := by decide +kernel
theorem dJ3_checkFromToIndex_8c36e_0 : decode cJ3_checkFromToIndex_8c36e 0 = .ok (.iload_n 0, 1) := by decide +kernel
theorem dJ3_checkFromToIndex_8c36e_1 : decode cJ3_checkFromToIndex_8c36e 1 = .ok (.ifCond .lt 13, 3) := by decide +kernel
theorem dJ3_checkFromToIndex_8c36e_4 : decode cJ3_checkFromToIndex_8c36e 4 = .ok (.iload_n 0, 1) := by decide +kernel
theorem dJ3_checkFromToIndex_8c36e_5 : decode cJ3_checkFromToIndex_8c36e 5 = .ok (.iload_n 1, 1) := by decide +kernel
theorem dJ3_checkFromToIndex_8c36e_6 : decode cJ3_checkFromToIndex_8c36e 6 = .ok (.if_icmp .gt 8, 3) := by decide +kernel
theorem dJ3_checkFromToIndex_8c36e_9 : decode cJ3_checkFromToIndex_8c36e 9 = .ok (.iload_n 1, 1) := by decide +kernel
theorem dJ3_checkFromToIndex_8c36e_10 : decode cJ3_checkFromToIndex_8c36e 10 = .ok (.iload_n 2, 1) := by decide +kernel
theorem dJ3_checkFromToIndex_8c36e_11 : decode cJ3_checkFromToIndex_8c36e 11 = .ok (.if_icmp .le 11, 3) := by decide +kernel
theorem dJ3_checkFromToIndex_8c36e_14 : decode cJ3_checkFromToIndex_8c36e 14 = .ok (.aload_n 3, 1) := by decide +kernel
theorem dJ3_checkFromToIndex_8c36e_15 : decode cJ3_checkFromToIndex_8c36e 15 = .ok (.iload_n 0, 1) := by decide +kernel
theorem dJ3_checkFromToIndex_8c36e_16 : decode cJ3_checkFromToIndex_8c36e 16 = .ok (.iload_n 1, 1) := by decide +kernel
theorem dJ3_checkFromToIndex_8c36e_17 : decode cJ3_checkFromToIndex_8c36e 17 = .ok (.iload_n 2, 1) := by decide +kernel
theorem dJ3_checkFromToIndex_8c36e_18 : decode cJ3_checkFromToIndex_8c36e 18 = .ok (.invokestatic 99, 3) := by decide +kernel
theorem dJ3_checkFromToIndex_8c36e_21 : decode cJ3_checkFromToIndex_8c36e 21 = .ok (.athrow, 1) := by decide +kernel
theorem dJ3_checkFromToIndex_8c36e_22 : decode cJ3_checkFromToIndex_8c36e 22 = .ok (.iload_n 0, 1) := by decide +kernel
theorem dJ3_checkFromToIndex_8c36e_23 : decode cJ3_checkFromToIndex_8c36e 23 = .ok (.ireturn, 1) := by decide +kernel
theorem dJ3_checkFromIndexSize_8c36e_0 : decode cJ3_checkFromIndexSize_8c36e 0 = .ok (.iload_n 2, 1) := by decide +kernel
theorem dJ3_checkFromIndexSize_8c36e_1 : decode cJ3_checkFromIndexSize_8c36e 1 = .ok (.iload_n 0, 1) := by decide +kernel
theorem dJ3_checkFromIndexSize_8c36e_2 : decode cJ3_checkFromIndexSize_8c36e 2 = .ok (.ior, 1) := by decide +kernel
theorem dJ3_checkFromIndexSize_8c36e_3 : decode cJ3_checkFromIndexSize_8c36e 3 = .ok (.iload_n 1, 1) := by decide +kernel
theorem dJ3_checkFromIndexSize_8c36e_4 : decode cJ3_checkFromIndexSize_8c36e 4 = .ok (.ior, 1) := by decide +kernel
theorem dJ3_checkFromIndexSize_8c36e_5 : decode cJ3_checkFromIndexSize_8c36e 5 = .ok (.ifCond .lt 10, 3) := by decide +kernel
theorem dJ3_checkFromIndexSize_8c36e_8 : decode cJ3_checkFromIndexSize_8c36e 8 = .ok (.iload_n 1, 1) := by decide +kernel
theorem dJ3_checkFromIndexSize_8c36e_9 : decode cJ3_checkFromIndexSize_8c36e 9 = .ok (.iload_n 2, 1) := by decide +kernel
theorem dJ3_checkFromIndexSize_8c36e_10 : decode cJ3_checkFromIndexSize_8c36e 10 = .ok (.iload_n 0, 1) := by decide +kernel
theorem dJ3_checkFromIndexSize_8c36e_11 : decode cJ3_checkFromIndexSize_8c36e 11 = .ok (.isub, 1) := by decide +kernel
theorem dJ3_checkFromIndexSize_8c36e_12 : decode cJ3_checkFromIndexSize_8c36e 12 = .ok (.if_icmp .le 11, 3) := by decide +kernel
theorem dJ3_checkFromIndexSize_8c36e_15 : decode cJ3_checkFromIndexSize_8c36e 15 = .ok (.aload_n 3, 1) := by decide +kernel
theorem dJ3_checkFromIndexSize_8c36e_16 : decode cJ3_checkFromIndexSize_8c36e 16 = .ok (.iload_n 0, 1) := by decide +kernel
theorem dJ3_checkFromIndexSize_8c36e_17 : decode cJ3_checkFromIndexSize_8c36e 17 = .ok (.iload_n 1, 1) := by decide +kernel
theorem dJ3_checkFromIndexSize_8c36e_18 : decode cJ3_checkFromIndexSize_8c36e 18 = .ok (.iload_n 2, 1) := by decide +kernel
theorem dJ3_checkFromIndexSize_8c36e_19 : decode cJ3_checkFromIndexSize_8c36e 19 = .ok (.invokestatic 103, 3) := by decide +kernel
theorem dJ3_checkFromIndexSize_8c36e_22 : decode cJ3_checkFromIndexSize_8c36e 22 = .ok (.athrow, 1) := by decide +kernel
theorem dJ3_checkFromIndexSize_8c36e_23 : decode cJ3_checkFromIndexSize_8c36e 23 = .ok (.iload_n 0, 1) := by decide +kernel
theorem dJ3_checkFromIndexSize_8c36e_24 : decode cJ3_checkFromIndexSize_8c36e 24 = .ok (.ireturn, 1) := by decide +kernel
end
section
theorem dX0_init_0 : decode cX0_init 0 = .ok (.aload_n 0, 1) := by decide +kernel
theorem dX0_init_1 : decode cX0_init 1 = .ok (.invokespecial 3, 3) := by decide +kernel
theorem dX0_init_4 : decode cX0_init 4 = .ok (.aload_n 0, 1) := by decide +kernel
theorem dX0_init_5 : decode cX0_init 5 = .ok (.iconst (-1), 1) := by decide +kernel
theorem dX0_init_6 : decode cX0_init 6 = .ok (.putfield 9, 3) := by decide +kernel
theorem dX0_init_9 : decode cX0_init 9 = .ok (.aload_n 0, 1) := by decide +kernel
theorem dX0_init_10 : decode cX0_init 10 = .ok (.iload_n 1, 1) := by decide +kernel
theorem dX0_init_11 : decode cX0_init 11 = .ok (.putfield 15, 3) := by decide +kernel
theorem dX0_init_14 : decode cX0_init 14 = .ok (.aload_n 0, 1) := by decide +kernel
theorem dX0_init_15 : decode cX0_init 15 = .ok (.aload_n 2, 1) := by decide +kernel
theorem dX0_init_16 : decode cX0_init 16 = .ok (.putfield 18, 3) := by decide +kernel
theorem dX0_init_19 : decode cX0_init 19 = .ok (.aload_n 0, 1) := by decide +kernel
theorem dX0_init_20 : decode cX0_init 20 = .ok (.aload_n 3, 1) := by decide +kernel
theorem dX0_init_21 : decode cX0_init 21 = .ok (.putfield 22, 3) := by decide +kernel
theorem dX0_init_24 : decode cX0_init 24 = .ok (.aload_n 0, 1) := by decide +kernel
theorem dX0_init_25 : decode cX0_init 25 = .ok (.iload 4, 2) := by decide +kernel
theorem dX0_init_27 : decode cX0_init 27 = .ok (.putfield 26, 3) := by decide +kernel
theorem dX0_init_30 : decode cX0_init 30 = .ok (.aload_n 0, 1) := by decide +kernel
theorem dX0_init_31 : decode cX0_init 31 = .ok (.iload 5, 2) := by decide +kernel
theorem dX0_init_33 : decode cX0_init 33 = .ok (.putfield 29, 3) := by decide +kernel
theorem dX0_init_36 : decode cX0_init 36 = .ok (.aload_n 0, 1) := by decide +kernel
theorem dX0_init_37 : decode cX0_init 37 = .ok (.iload 6, 2) := by decide +kernel
theorem dX0_init_39 : decode cX0_init 39 = .ok (.putfield 32, 3) := by decide +kernel
theorem dX0_init_42 : decode cX0_init 42 = .ok (.aload_n 0, 1) := by decide +kernel
theorem dX0_init_43 : decode cX0_init 43 = .ok (.iload 7, 2) := by decide +kernel
theorem dX0_init_45 : decode cX0_init 45 = .ok (.putfield 35, 3) := by decide +kernel
theorem dX0_init_48 : decode cX0_init 48 = .ok (.return_, 1) := by decide +kernel
theorem dX0_isKnownOn_0 : decode cX0_isKnownOn 0 = .ok (.aload_n 0, 1) := by decide +kernel
theorem dX0_isKnownOn_1 : decode cX0_isKnownOn 1 = .ok (.getfield 35, 3) := by decide +kernel
theorem dX0_isKnownOn_4 : decode cX0_isKnownOn 4 = .ok (.iload_n 1, 1) := by decide +kernel
theorem dX0_isKnownOn_5 : decode cX0_isKnownOn 5 = .ok (.if_icmp .gt 23, 3) := by decide +kernel
theorem dX0_isKnownOn_8 : decode cX0_isKnownOn 8 = .ok (.aload_n 0, 1) := by decide +kernel
theorem dX0_isKnownOn_9 : decode cX0_isKnownOn 9 = .ok (.getfield 9, 3) := by decide +kernel
theorem dX0_isKnownOn_12 : decode cX0_isKnownOn 12 = .ok (.iconst (-1), 1) := by decide +kernel
theorem dX0_isKnownOn_13 : decode cX0_isKnownOn 13 = .ok (.if_icmp .eq 11, 3) := by decide +kernel
theorem dX0_isKnownOn_16 : decode cX0_isKnownOn 16 = .ok (.aload_n 0, 1) := by decide +kernel
theorem dX0_isKnownOn_17 : decode cX0_isKnownOn 17 = .ok (.getfield 9, 3) := by decide +kernel
theorem dX0_isKnownOn_20 : decode cX0_isKnownOn 20 = .ok (.iload_n 1, 1) := by decide +kernel
theorem dX0_isKnownOn_21 : decode cX0_isKnownOn 21 = .ok (.if_icmp .le 7, 3) := by decide +kernel
theorem dX0_isKnownOn_24 : decode cX0_isKnownOn 24 = .ok (.iconst 1, 1) := by decide +kernel
theorem dX0_isKnownOn_25 : decode cX0_isKnownOn 25 = .ok (.goto 4, 3) := by decide +kernel
theorem dX0_isKnownOn_28 : decode cX0_isKnownOn 28 = .ok (.iconst 0, 1) := by decide +kernel
theorem dX0_isKnownOn_29 : decode cX0_isKnownOn 29 = .ok (.ireturn, 1) := by decide +kernel
set_option maxRecDepth 20000 in
theorem ggX2_init_Jx4a65c_init_da8c8 : GoodIn wsX2_init wsJx4a65c_init_da8c8 := goodIn_r _ [12, 13, 14, 15, 16, 17, 18, 19, 20, 21, 22, 23, 24, 2, 3, 25, 26, 27] (by decide +kernel) (by decide +kernel)
set_option maxRecDepth 20000 in
theorem gX2_init_Jx4a65c_init_da8c8 : GoodIn wsX2_init (wsJx4a65c_init_da8c8) := ggX2_init_Jx4a65c_init_da8c8
theorem dX2_init_0 : decode cX2_init 0 = .ok (.aload_n 0, 1) := by decide +kernel
theorem dX2_init_1 : decode cX2_init 1 = .ok (.invokespecial 1, 3) := by decide +kernel
theorem dX2_init_4 : decode cX2_init 4 = .ok (.aload_n 0, 1) := by decide +kernel
theorem dX2_init_5 : decode cX2_init 5 = .ok (.new 7, 3) := by decide +kernel
theorem dX2_init_8 : decode cX2_init 8 = .ok (.dup, 1) := by decide +kernel
theorem dX2_init_9 : decode cX2_init 9 = .ok (.invokespecial 9, 3) := by decide +kernel
theorem dX2_init_12 : decode cX2_init 12 = .ok (.putfield 10, 3) := by decide +kernel
theorem dX2_init_15 : decode cX2_init 15 = .ok (.aload_n 0, 1) := by decide +kernel
theorem dX2_init_16 : decode cX2_init 16 = .ok (.iconst 0, 1) := by decide +kernel
theorem dX2_init_17 : decode cX2_init 17 = .ok (.putfield 16, 3) := by decide +kernel
theorem dX2_init_20 : decode cX2_init 20 = .ok (.aload_n 0, 1) := by decide +kernel
theorem dX2_init_21 : decode cX2_init 21 = .ok (.iload_n 1, 1) := by decide +kernel
theorem dX2_init_22 : decode cX2_init 22 = .ok (.putfield 20, 3) := by decide +kernel
theorem dX2_init_25 : decode cX2_init 25 = .ok (.return_, 1) := by decide +kernel
set_option maxRecDepth 20000 in
theorem ggX2_putInOrder_Jx4a65c_size_8abf5 : GoodIn wsX2_putInOrder wsJx4a65c_size_8abf5 := goodIn_r _ [8, 9, 92, 93, 94] (by decide +kernel) (by decide +kernel)
set_option maxRecDepth 20000 in
theorem gX2_putInOrder_Jx4a65c_size_8abf5_f23Jx4a65c : GoodIn wsX2_putInOrder (va_wsF RX2 23 RJx4a65c ⟨"java/util/List", "size", "()I"⟩ yJx4a65c_size_8abf5 wsJx4a65c_size_8abf5) := goodIn_app (goodIn_of _ (by decide +kernel)) ggX2_putInOrder_Jx4a65c_size_8abf5
set_option maxRecDepth 20000 in
theorem ggX2_putInOrder_Jx4a65c_get_915e3 : GoodIn wsX2_putInOrder wsJx4a65c_get_915e3 := goodIn_r _ [13, 9, 14, 15, 16, 17, 18, 19, 20, 21, 22, 23, 24, 7, 25, 26, 92, 93, 94] (by decide +kernel) (by decide +kernel)
set_option maxRecDepth 20000 in
theorem gX2_putInOrder_Jx4a65c_get_915e3_f29Jx4a65c : GoodIn wsX2_putInOrder (va_wsF RX2 29 RJx4a65c ⟨"java/util/List", "get", "(I)Ljava/lang/Object;"⟩ yJx4a65c_get_915e3 wsJx4a65c_get_915e3) := goodIn_app (goodIn_of _ (by decide +kernel)) ggX2_putInOrder_Jx4a65c_get_915e3
set_option maxRecDepth 20000 in
theorem ggX2_putInOrder_Jx4a65c_add_7a177 : GoodIn wsX2_putInOrder wsJx4a65c_add_7a177 := goodIn_r _ [30, 31, 32, 9, 26, 33, 34, 35, 36, 37, 38, 39, 7, 40, 41, 42, 43, 44, 45, 46, 47, 48, 49, 50, 51, 52, 53, 54, 55, 56, 57, 58, 59, 60, 61, 62, 63, 64, 65, 66, 67, 68, 69, 70, 71, 72, 73, 74, 75, 76, 77, 78, 79, 80, 92, 93, 94] (by decide +kernel) (by decide +kernel)
set_option maxRecDepth 20000 in
theorem gX2_putInOrder_Jx4a65c_add_7a177_f38Jx4a65c : GoodIn wsX2_putInOrder (va_wsF RX2 38 RJx4a65c ⟨"java/util/List", "add", "(ILjava/lang/Object;)V"⟩ yJx4a65c_add_7a177 wsJx4a65c_add_7a177) := goodIn_app (goodIn_of _ (by decide +kernel)) ggX2_putInOrder_Jx4a65c_add_7a177
theorem dX2_putInOrder_0 : decode cX2_putInOrder 0 = .ok (.aload_n 0, 1) := by decide +kernel
theorem dX2_putInOrder_1 : decode cX2_putInOrder 1 = .ok (.getfield 10, 3) := by decide +kernel
theorem dX2_putInOrder_4 : decode cX2_putInOrder 4 = .ok (.invokeinterface 23 1, 5) := by decide +kernel
theorem dX2_putInOrder_9 : decode cX2_putInOrder 9 = .ok (.istore_n 2, 1) := by decide +kernel
theorem dX2_putInOrder_10 : decode cX2_putInOrder 10 = .ok (.iload_n 2, 1) := by decide +kernel
theorem dX2_putInOrder_11 : decode cX2_putInOrder 11 = .ok (.ifCond .le 34, 3) := by decide +kernel
theorem dX2_putInOrder_14 : decode cX2_putInOrder 14 = .ok (.aload_n 0, 1) := by decide +kernel
theorem dX2_putInOrder_15 : decode cX2_putInOrder 15 = .ok (.getfield 10, 3) := by decide +kernel
theorem dX2_putInOrder_18 : decode cX2_putInOrder 18 = .ok (.iload_n 2, 1) := by decide +kernel
theorem dX2_putInOrder_19 : decode cX2_putInOrder 19 = .ok (.iconst 1, 1) := by decide +kernel
theorem dX2_putInOrder_20 : decode cX2_putInOrder 20 = .ok (.isub, 1) := by decide +kernel
theorem dX2_putInOrder_21 : decode cX2_putInOrder 21 = .ok (.invokeinterface 29 2, 5) := by decide +kernel
theorem dX2_putInOrder_26 : decode cX2_putInOrder 26 = .ok (.checkcast 33, 3) := by decide +kernel
theorem dX2_putInOrder_29 : decode cX2_putInOrder 29 = .ok (.getfield 35, 3) := by decide +kernel
theorem dX2_putInOrder_32 : decode cX2_putInOrder 32 = .ok (.aload_n 1, 1) := by decide +kernel
theorem dX2_putInOrder_33 : decode cX2_putInOrder 33 = .ok (.getfield 35, 3) := by decide +kernel
theorem dX2_putInOrder_36 : decode cX2_putInOrder 36 = .ok (.if_icmp .le 9, 3) := by decide +kernel
theorem dX2_putInOrder_39 : decode cX2_putInOrder 39 = .ok (.iinc 2 (-1), 3) := by decide +kernel
theorem dX2_putInOrder_42 : decode cX2_putInOrder 42 = .ok (.goto (-32), 3) := by decide +kernel
theorem dX2_putInOrder_45 : decode cX2_putInOrder 45 = .ok (.aload_n 0, 1) := by decide +kernel
theorem dX2_putInOrder_46 : decode cX2_putInOrder 46 = .ok (.getfield 10, 3) := by decide +kernel
theorem dX2_putInOrder_49 : decode cX2_putInOrder 49 = .ok (.iload_n 2, 1) := by decide +kernel
theorem dX2_putInOrder_50 : decode cX2_putInOrder 50 = .ok (.aload_n 1, 1) := by decide +kernel
theorem dX2_putInOrder_51 : decode cX2_putInOrder 51 = .ok (.invokeinterface 38 3, 5) := by decide +kernel
theorem dX2_putInOrder_56 : decode cX2_putInOrder 56 = .ok (.return_, 1) := by decide +kernel
set_option maxRecDepth 20000 in
theorem ggX3_init_J7_fill_53178 : GoodIn wsX3_init wsJ7_fill_53178 := goodIn_r _ [12] (by decide +kernel) (by decide +kernel)
set_option maxRecDepth 20000 in
theorem gX3_init_J7_fill_53178 : GoodIn wsX3_init (va_wsS RX3 23 yJ7_fill_53178 wsJ7_fill_53178) := goodIn_app (goodIn_of _ (by decide +kernel)) ggX3_init_J7_fill_53178
theorem dX3_init_0 : decode cX3_init 0 = .ok (.aload_n 0, 1) := by decide +kernel
theorem dX3_init_1 : decode cX3_init 1 = .ok (.invokespecial 3, 3) := by decide +kernel
theorem dX3_init_4 : decode cX3_init 4 = .ok (.aload_n 0, 1) := by decide +kernel
theorem dX3_init_5 : decode cX3_init 5 = .ok (.iconst 3, 1) := by decide +kernel
theorem dX3_init_6 : decode cX3_init 6 = .ok (.sipush 365, 3) := by decide +kernel
theorem dX3_init_9 : decode cX3_init 9 = .ok (.multianewarray 9 2, 4) := by decide +kernel
theorem dX3_init_13 : decode cX3_init 13 = .ok (.putfield 11, 3) := by decide +kernel
theorem dX3_init_16 : decode cX3_init 16 = .ok (.aload_n 0, 1) := by decide +kernel
theorem dX3_init_17 : decode cX3_init 17 = .ok (.iconst 3, 1) := by decide +kernel
theorem dX3_init_18 : decode cX3_init 18 = .ok (.sipush 365, 3) := by decide +kernel
theorem dX3_init_21 : decode cX3_init 21 = .ok (.multianewarray 9 2, 4) := by decide +kernel
theorem dX3_init_25 : decode cX3_init 25 = .ok (.putfield 16, 3) := by decide +kernel
theorem dX3_init_28 : decode cX3_init 28 = .ok (.aload_n 0, 1) := by decide +kernel
theorem dX3_init_29 : decode cX3_init 29 = .ok (.iconst 0, 1) := by decide +kernel
theorem dX3_init_30 : decode cX3_init 30 = .ok (.putfield 19, 3) := by decide +kernel
theorem dX3_init_33 : decode cX3_init 33 = .ok (.iconst 0, 1) := by decide +kernel
theorem dX3_init_34 : decode cX3_init 34 = .ok (.istore_n 1, 1) := by decide +kernel
theorem dX3_init_35 : decode cX3_init 35 = .ok (.iload_n 1, 1) := by decide +kernel
theorem dX3_init_36 : decode cX3_init 36 = .ok (.iconst 3, 1) := by decide +kernel
theorem dX3_init_37 : decode cX3_init 37 = .ok (.if_icmp .ge 19, 3) := by decide +kernel
theorem dX3_init_40 : decode cX3_init 40 = .ok (.aload_n 0, 1) := by decide +kernel
theorem dX3_init_41 : decode cX3_init 41 = .ok (.getfield 11, 3) := by decide +kernel
theorem dX3_init_44 : decode cX3_init 44 = .ok (.iload_n 1, 1) := by decide +kernel
theorem dX3_init_45 : decode cX3_init 45 = .ok (.aaload, 1) := by decide +kernel
theorem dX3_init_46 : decode cX3_init 46 = .ok (.iconst 1, 1) := by decide +kernel
theorem dX3_init_47 : decode cX3_init 47 = .ok (.invokestatic 23, 3) := by decide +kernel
theorem dX3_init_50 : decode cX3_init 50 = .ok (.iinc 1 1, 3) := by decide +kernel
theorem dX3_init_53 : decode cX3_init 53 = .ok (.goto (-18), 3) := by decide +kernel
theorem dX3_init_56 : decode cX3_init 56 = .ok (.return_, 1) := by decide +kernel
set_option maxRecDepth 20000 in
theorem ggX3_tell_X6_isField : GoodIn wsX3_tell wsX6_isField := goodIn_r _ [6] (by decide +kernel) (by decide +kernel)
set_option maxRecDepth 20000 in
theorem gX3_tell_X6_isField_n29 : GoodIn wsX3_tell (wsX6_isField) := ggX3_tell_X6_isField
theorem dX3_tell_0 : decode cX3_tell 0 = .ok (.iload_n 1, 1) := by decide +kernel
theorem dX3_tell_1 : decode cX3_tell 1 = .ok (.invokestatic 29, 3) := by decide +kernel
theorem dX3_tell_4 : decode cX3_tell 4 = .ok (.ifCond .ne 4, 3) := by decide +kernel
theorem dX3_tell_7 : decode cX3_tell 7 = .ok (.return_, 1) := by decide +kernel
theorem dX3_tell_8 : decode cX3_tell 8 = .ok (.iconst 0, 1) := by decide +kernel
theorem dX3_tell_9 : decode cX3_tell 9 = .ok (.istore 4, 2) := by decide +kernel
theorem dX3_tell_11 : decode cX3_tell 11 = .ok (.iload 4, 2) := by decide +kernel
theorem dX3_tell_13 : decode cX3_tell 13 = .ok (.sipush 365, 3) := by decide +kernel
theorem dX3_tell_16 : decode cX3_tell 16 = .ok (.if_icmp .ge 48, 3) := by decide +kernel
theorem dX3_tell_19 : decode cX3_tell 19 = .ok (.iload_n 3, 1) := by decide +kernel
theorem dX3_tell_20 : decode cX3_tell 20 = .ok (.iload 4, 2) := by decide +kernel
theorem dX3_tell_22 : decode cX3_tell 22 = .ok (.if_icmp .gt 36, 3) := by decide +kernel
theorem dX3_tell_25 : decode cX3_tell 25 = .ok (.iload_n 3, 1) := by decide +kernel
theorem dX3_tell_26 : decode cX3_tell 26 = .ok (.aload_n 0, 1) := by decide +kernel
theorem dX3_tell_27 : decode cX3_tell 27 = .ok (.getfield 16, 3) := by decide +kernel
theorem dX3_tell_30 : decode cX3_tell 30 = .ok (.iload_n 1, 1) := by decide +kernel
theorem dX3_tell_31 : decode cX3_tell 31 = .ok (.aaload, 1) := by decide +kernel
theorem dX3_tell_32 : decode cX3_tell 32 = .ok (.iload 4, 2) := by decide +kernel
theorem dX3_tell_34 : decode cX3_tell 34 = .ok (.iaload, 1) := by decide +kernel
theorem dX3_tell_35 : decode cX3_tell 35 = .ok (.if_icmp .lt 23, 3) := by decide +kernel
theorem dX3_tell_38 : decode cX3_tell 38 = .ok (.aload_n 0, 1) := by decide +kernel
theorem dX3_tell_39 : decode cX3_tell 39 = .ok (.getfield 11, 3) := by decide +kernel
theorem dX3_tell_42 : decode cX3_tell 42 = .ok (.iload_n 1, 1) := by decide +kernel
theorem dX3_tell_43 : decode cX3_tell 43 = .ok (.aaload, 1) := by decide +kernel
theorem dX3_tell_44 : decode cX3_tell 44 = .ok (.iload 4, 2) := by decide +kernel
theorem dX3_tell_46 : decode cX3_tell 46 = .ok (.iload_n 2, 1) := by decide +kernel
theorem dX3_tell_47 : decode cX3_tell 47 = .ok (.iastore, 1) := by decide +kernel
theorem dX3_tell_48 : decode cX3_tell 48 = .ok (.aload_n 0, 1) := by decide +kernel
theorem dX3_tell_49 : decode cX3_tell 49 = .ok (.getfield 16, 3) := by decide +kernel
theorem dX3_tell_52 : decode cX3_tell 52 = .ok (.iload_n 1, 1) := by decide +kernel
theorem dX3_tell_53 : decode cX3_tell 53 = .ok (.aaload, 1) := by decide +kernel
theorem dX3_tell_54 : decode cX3_tell 54 = .ok (.iload 4, 2) := by decide +kernel
theorem dX3_tell_56 : decode cX3_tell 56 = .ok (.iload_n 3, 1) := by decide +kernel
theorem dX3_tell_57 : decode cX3_tell 57 = .ok (.iastore, 1) := by decide +kernel
theorem dX3_tell_58 : decode cX3_tell 58 = .ok (.iinc 4 1, 3) := by decide +kernel
theorem dX3_tell_61 : decode cX3_tell 61 = .ok (.goto (-50), 3) := by decide +kernel
theorem dX3_tell_64 : decode cX3_tell 64 = .ok (.aload_n 0, 1) := by decide +kernel
theorem dX3_tell_65 : decode cX3_tell 65 = .ok (.dup, 1) := by decide +kernel
theorem dX3_tell_66 : decode cX3_tell 66 = .ok (.getfield 19, 3) := by decide +kernel
theorem dX3_tell_69 : decode cX3_tell 69 = .ok (.iconst 1, 1) := by decide +kernel
theorem dX3_tell_70 : decode cX3_tell 70 = .ok (.iadd, 1) := by decide +kernel
theorem dX3_tell_71 : decode cX3_tell 71 = .ok (.putfield 19, 3) := by decide +kernel
theorem dX3_tell_74 : decode cX3_tell 74 = .ok (.return_, 1) := by decide +kernel
set_option maxRecDepth 20000 in
theorem ggX3_weightOn_X6_isField : GoodIn wsX3_weightOn wsX6_isField := goodIn_r _ [4] (by decide +kernel) (by decide +kernel)
set_option maxRecDepth 20000 in
theorem gX3_weightOn_X6_isField_n29 : GoodIn wsX3_weightOn (wsX6_isField) := ggX3_weightOn_X6_isField
set_option maxRecDepth 20000 in
theorem ggX3_weightOn_X6_isDay : GoodIn wsX3_weightOn wsX6_isDay := goodIn_r _ [6] (by decide +kernel) (by decide +kernel)
set_option maxRecDepth 20000 in
theorem gX3_weightOn_X6_isDay_n33 : GoodIn wsX3_weightOn (wsX6_isDay) := ggX3_weightOn_X6_isDay
theorem dX3_weightOn_0 : decode cX3_weightOn 0 = .ok (.iload_n 1, 1) := by decide +kernel
theorem dX3_weightOn_1 : decode cX3_weightOn 1 = .ok (.invokestatic 29, 3) := by decide +kernel
theorem dX3_weightOn_4 : decode cX3_weightOn 4 = .ok (.ifCond .eq 21, 3) := by decide +kernel
theorem dX3_weightOn_7 : decode cX3_weightOn 7 = .ok (.iload_n 2, 1) := by decide +kernel
theorem dX3_weightOn_8 : decode cX3_weightOn 8 = .ok (.invokestatic 33, 3) := by decide +kernel
theorem dX3_weightOn_11 : decode cX3_weightOn 11 = .ok (.ifCond .eq 14, 3) := by decide +kernel
theorem dX3_weightOn_14 : decode cX3_weightOn 14 = .ok (.aload_n 0, 1) := by decide +kernel
theorem dX3_weightOn_15 : decode cX3_weightOn 15 = .ok (.getfield 11, 3) := by decide +kernel
theorem dX3_weightOn_18 : decode cX3_weightOn 18 = .ok (.iload_n 1, 1) := by decide +kernel
theorem dX3_weightOn_19 : decode cX3_weightOn 19 = .ok (.aaload, 1) := by decide +kernel
theorem dX3_weightOn_20 : decode cX3_weightOn 20 = .ok (.iload_n 2, 1) := by decide +kernel
theorem dX3_weightOn_21 : decode cX3_weightOn 21 = .ok (.iaload, 1) := by decide +kernel
theorem dX3_weightOn_22 : decode cX3_weightOn 22 = .ok (.goto 4, 3) := by decide +kernel
theorem dX3_weightOn_25 : decode cX3_weightOn 25 = .ok (.iconst 1, 1) := by decide +kernel
theorem dX3_weightOn_26 : decode cX3_weightOn 26 = .ok (.ireturn, 1) := by decide +kernel
theorem dX4_init_0 : decode cX4_init 0 = .ok (.aload_n 0, 1) := by decide +kernel
theorem dX4_init_1 : decode cX4_init 1 = .ok (.invokespecial 3, 3) := by decide +kernel
theorem dX4_init_4 : decode cX4_init 4 = .ok (.aload_n 0, 1) := by decide +kernel
theorem dX4_init_5 : decode cX4_init 5 = .ok (.iconst 3, 1) := by decide +kernel
theorem dX4_init_6 : decode cX4_init 6 = .ok (.newarray .int, 2) := by decide +kernel
theorem dX4_init_8 : decode cX4_init 8 = .ok (.putfield 9, 3) := by decide +kernel
theorem dX4_init_11 : decode cX4_init 11 = .ok (.aload_n 0, 1) := by decide +kernel
theorem dX4_init_12 : decode cX4_init 12 = .ok (.iconst 1, 1) := by decide +kernel
theorem dX4_init_13 : decode cX4_init 13 = .ok (.putfield 15, 3) := by decide +kernel
theorem dX4_init_16 : decode cX4_init 16 = .ok (.return_, 1) := by decide +kernel
set_option maxRecDepth 20000 in
theorem ggX4_begin_J7_fill_53178 : GoodIn wsX4_begin wsJ7_fill_53178 := goodIn_r _ [6] (by decide +kernel) (by decide +kernel)
set_option maxRecDepth 20000 in
theorem gX4_begin_J7_fill_53178 : GoodIn wsX4_begin (va_wsS RX4 19 yJ7_fill_53178 wsJ7_fill_53178) := goodIn_app (goodIn_of _ (by decide +kernel)) ggX4_begin_J7_fill_53178
theorem dX4_begin_0 : decode cX4_begin 0 = .ok (.aload_n 0, 1) := by decide +kernel
theorem dX4_begin_1 : decode cX4_begin 1 = .ok (.getfield 9, 3) := by decide +kernel
theorem dX4_begin_4 : decode cX4_begin 4 = .ok (.iconst 0, 1) := by decide +kernel
theorem dX4_begin_5 : decode cX4_begin 5 = .ok (.invokestatic 19, 3) := by decide +kernel
theorem dX4_begin_8 : decode cX4_begin 8 = .ok (.aload_n 0, 1) := by decide +kernel
theorem dX4_begin_9 : decode cX4_begin 9 = .ok (.iconst 1, 1) := by decide +kernel
theorem dX4_begin_10 : decode cX4_begin 10 = .ok (.putfield 15, 3) := by decide +kernel
theorem dX4_begin_13 : decode cX4_begin 13 = .ok (.return_, 1) := by decide +kernel
set_option maxRecDepth 20000 in
theorem ggX4_layIn_X4_putValue : GoodIn wsX4_layIn wsX4_putValue := goodIn_r _ [19, 20, 21, 22, 23, 36, 37] (by decide +kernel) (by decide +kernel)
set_option maxRecDepth 20000 in
theorem gX4_layIn_X4_putValue : GoodIn wsX4_layIn (wsV RX4 43 RX4 yX4_putValue wsX4_putValue) := goodIn_app (goodIn_of _ (by decide +kernel)) ggX4_layIn_X4_putValue
set_option maxRecDepth 20000 in
theorem ggX4_layIn_X4_valueOf : GoodIn wsX4_layIn wsX4_valueOf := goodIn_r _ [27, 20, 21, 22, 23, 36, 37] (by decide +kernel) (by decide +kernel)
set_option maxRecDepth 20000 in
theorem gX4_layIn_X4_valueOf : GoodIn wsX4_layIn (wsV RX4 50 RX4 yX4_valueOf wsX4_valueOf) := goodIn_app (goodIn_of _ (by decide +kernel)) ggX4_layIn_X4_valueOf
theorem dX4_layIn_0 : decode cX4_layIn 0 = .ok (.aload_n 1, 1) := by decide +kernel
theorem dX4_layIn_1 : decode cX4_layIn 1 = .ok (.getfield 25, 3) := by decide +kernel
theorem dX4_layIn_4 : decode cX4_layIn 4 = .ok (.getstatic 31, 3) := by decide +kernel
theorem dX4_layIn_7 : decode cX4_layIn 7 = .ok (.if_acmp .ne 18, 3) := by decide +kernel
theorem dX4_layIn_10 : decode cX4_layIn 10 = .ok (.aload_n 0, 1) := by decide +kernel
theorem dX4_layIn_11 : decode cX4_layIn 11 = .ok (.aload_n 1, 1) := by decide +kernel
theorem dX4_layIn_12 : decode cX4_layIn 12 = .ok (.getfield 36, 3) := by decide +kernel
theorem dX4_layIn_15 : decode cX4_layIn 15 = .ok (.aload_n 1, 1) := by decide +kernel
theorem dX4_layIn_16 : decode cX4_layIn 16 = .ok (.getfield 40, 3) := by decide +kernel
theorem dX4_layIn_19 : decode cX4_layIn 19 = .ok (.invokevirtual 43, 3) := by decide +kernel
theorem dX4_layIn_22 : decode cX4_layIn 22 = .ok (.goto 67, 3) := by decide +kernel
theorem dX4_layIn_25 : decode cX4_layIn 25 = .ok (.aload_n 1, 1) := by decide +kernel
theorem dX4_layIn_26 : decode cX4_layIn 26 = .ok (.getfield 25, 3) := by decide +kernel
theorem dX4_layIn_29 : decode cX4_layIn 29 = .ok (.getstatic 47, 3) := by decide +kernel
theorem dX4_layIn_32 : decode cX4_layIn 32 = .ok (.if_acmp .ne 38, 3) := by decide +kernel
theorem dX4_layIn_35 : decode cX4_layIn 35 = .ok (.aload_n 0, 1) := by decide +kernel
theorem dX4_layIn_36 : decode cX4_layIn 36 = .ok (.aload_n 1, 1) := by decide +kernel
theorem dX4_layIn_37 : decode cX4_layIn 37 = .ok (.getfield 36, 3) := by decide +kernel
theorem dX4_layIn_40 : decode cX4_layIn 40 = .ok (.invokevirtual 50, 3) := by decide +kernel
theorem dX4_layIn_43 : decode cX4_layIn 43 = .ok (.aload_n 1, 1) := by decide +kernel
theorem dX4_layIn_44 : decode cX4_layIn 44 = .ok (.getfield 40, 3) := by decide +kernel
theorem dX4_layIn_47 : decode cX4_layIn 47 = .ok (.iadd, 1) := by decide +kernel
theorem dX4_layIn_48 : decode cX4_layIn 48 = .ok (.istore_n 2, 1) := by decide +kernel
theorem dX4_layIn_49 : decode cX4_layIn 49 = .ok (.aload_n 0, 1) := by decide +kernel
theorem dX4_layIn_50 : decode cX4_layIn 50 = .ok (.aload_n 1, 1) := by decide +kernel
theorem dX4_layIn_51 : decode cX4_layIn 51 = .ok (.getfield 36, 3) := by decide +kernel
theorem dX4_layIn_54 : decode cX4_layIn 54 = .ok (.iload_n 2, 1) := by decide +kernel
theorem dX4_layIn_55 : decode cX4_layIn 55 = .ok (.iconst 0, 1) := by decide +kernel
theorem dX4_layIn_56 : decode cX4_layIn 56 = .ok (.invokestatic 54, 3) := by decide +kernel
theorem dX4_layIn_59 : decode cX4_layIn 59 = .ok (.bipush 20, 2) := by decide +kernel
theorem dX4_layIn_61 : decode cX4_layIn 61 = .ok (.invokestatic 60, 3) := by decide +kernel
theorem dX4_layIn_64 : decode cX4_layIn 64 = .ok (.invokevirtual 43, 3) := by decide +kernel
theorem dX4_layIn_67 : decode cX4_layIn 67 = .ok (.goto 22, 3) := by decide +kernel
theorem dX4_layIn_70 : decode cX4_layIn 70 = .ok (.aload_n 0, 1) := by decide +kernel
theorem dX4_layIn_71 : decode cX4_layIn 71 = .ok (.aload_n 1, 1) := by decide +kernel
theorem dX4_layIn_72 : decode cX4_layIn 72 = .ok (.getfield 25, 3) := by decide +kernel
theorem dX4_layIn_75 : decode cX4_layIn 75 = .ok (.getstatic 63, 3) := by decide +kernel
theorem dX4_layIn_78 : decode cX4_layIn 78 = .ok (.if_acmp .ne 7, 3) := by decide +kernel
theorem dX4_layIn_81 : decode cX4_layIn 81 = .ok (.iconst 1, 1) := by decide +kernel
theorem dX4_layIn_82 : decode cX4_layIn 82 = .ok (.goto 4, 3) := by decide +kernel
theorem dX4_layIn_85 : decode cX4_layIn 85 = .ok (.iconst 0, 1) := by decide +kernel
theorem dX4_layIn_86 : decode cX4_layIn 86 = .ok (.putfield 15, 3) := by decide +kernel
theorem dX4_layIn_89 : decode cX4_layIn 89 = .ok (.return_, 1) := by decide +kernel
set_option maxRecDepth 20000 in
theorem ggX4_valueOf_X6_isField : GoodIn wsX4_valueOf wsX6_isField := goodIn_r _ [4] (by decide +kernel) (by decide +kernel)
set_option maxRecDepth 20000 in
theorem gX4_valueOf_X6_isField_n66 : GoodIn wsX4_valueOf (wsX6_isField) := ggX4_valueOf_X6_isField
theorem dX4_valueOf_0 : decode cX4_valueOf 0 = .ok (.iload_n 1, 1) := by decide +kernel
theorem dX4_valueOf_1 : decode cX4_valueOf 1 = .ok (.invokestatic 66, 3) := by decide +kernel
theorem dX4_valueOf_4 : decode cX4_valueOf 4 = .ok (.ifCond .eq 12, 3) := by decide +kernel
theorem dX4_valueOf_7 : decode cX4_valueOf 7 = .ok (.aload_n 0, 1) := by decide +kernel
theorem dX4_valueOf_8 : decode cX4_valueOf 8 = .ok (.getfield 9, 3) := by decide +kernel
theorem dX4_valueOf_11 : decode cX4_valueOf 11 = .ok (.iload_n 1, 1) := by decide +kernel
theorem dX4_valueOf_12 : decode cX4_valueOf 12 = .ok (.iaload, 1) := by decide +kernel
theorem dX4_valueOf_13 : decode cX4_valueOf 13 = .ok (.goto 4, 3) := by decide +kernel
theorem dX4_valueOf_16 : decode cX4_valueOf 16 = .ok (.iconst 0, 1) := by decide +kernel
theorem dX4_valueOf_17 : decode cX4_valueOf 17 = .ok (.ireturn, 1) := by decide +kernel
set_option maxRecDepth 20000 in
theorem ggX4_putValue_X6_isField : GoodIn wsX4_putValue wsX6_isField := goodIn_r _ [4] (by decide +kernel) (by decide +kernel)
set_option maxRecDepth 20000 in
theorem gX4_putValue_X6_isField_n66 : GoodIn wsX4_putValue (wsX6_isField) := ggX4_putValue_X6_isField
theorem dX4_putValue_0 : decode cX4_putValue 0 = .ok (.iload_n 1, 1) := by decide +kernel
theorem dX4_putValue_1 : decode cX4_putValue 1 = .ok (.invokestatic 66, 3) := by decide +kernel
theorem dX4_putValue_4 : decode cX4_putValue 4 = .ok (.ifCond .eq 10, 3) := by decide +kernel
theorem dX4_putValue_7 : decode cX4_putValue 7 = .ok (.aload_n 0, 1) := by decide +kernel
theorem dX4_putValue_8 : decode cX4_putValue 8 = .ok (.getfield 9, 3) := by decide +kernel
theorem dX4_putValue_11 : decode cX4_putValue 11 = .ok (.iload_n 1, 1) := by decide +kernel
theorem dX4_putValue_12 : decode cX4_putValue 12 = .ok (.iload_n 2, 1) := by decide +kernel
theorem dX4_putValue_13 : decode cX4_putValue 13 = .ok (.iastore, 1) := by decide +kernel
theorem dX4_putValue_14 : decode cX4_putValue 14 = .ok (.return_, 1) := by decide +kernel
theorem dX5_init_0 : decode cX5_init 0 = .ok (.aload_n 0, 1) := by decide +kernel
theorem dX5_init_1 : decode cX5_init 1 = .ok (.invokespecial 3, 3) := by decide +kernel
theorem dX5_init_4 : decode cX5_init 4 = .ok (.aload_n 0, 1) := by decide +kernel
theorem dX5_init_5 : decode cX5_init 5 = .ok (.sipush 365, 3) := by decide +kernel
theorem dX5_init_8 : decode cX5_init 8 = .ok (.newarray .int, 2) := by decide +kernel
theorem dX5_init_10 : decode cX5_init 10 = .ok (.putfield 9, 3) := by decide +kernel
theorem dX5_init_13 : decode cX5_init 13 = .ok (.aload_n 0, 1) := by decide +kernel
theorem dX5_init_14 : decode cX5_init 14 = .ok (.sipush 366, 3) := by decide +kernel
theorem dX5_init_17 : decode cX5_init 17 = .ok (.newarray .int, 2) := by decide +kernel
theorem dX5_init_19 : decode cX5_init 19 = .ok (.putfield 15, 3) := by decide +kernel
theorem dX5_init_22 : decode cX5_init 22 = .ok (.return_, 1) := by decide +kernel
set_option maxRecDepth 20000 in
theorem ggX5_putRate_X6_isDay : GoodIn wsX5_putRate wsX6_isDay := goodIn_r _ [5] (by decide +kernel) (by decide +kernel)
set_option maxRecDepth 20000 in
theorem gX5_putRate_X6_isDay_n18 : GoodIn wsX5_putRate (wsX6_isDay) := ggX5_putRate_X6_isDay
theorem dX5_putRate_0 : decode cX5_putRate 0 = .ok (.iload_n 1, 1) := by decide +kernel
theorem dX5_putRate_1 : decode cX5_putRate 1 = .ok (.invokestatic 18, 3) := by decide +kernel
theorem dX5_putRate_4 : decode cX5_putRate 4 = .ok (.ifCond .eq 26, 3) := by decide +kernel
theorem dX5_putRate_7 : decode cX5_putRate 7 = .ok (.aload_n 0, 1) := by decide +kernel
theorem dX5_putRate_8 : decode cX5_putRate 8 = .ok (.getfield 9, 3) := by decide +kernel
theorem dX5_putRate_11 : decode cX5_putRate 11 = .ok (.iload_n 1, 1) := by decide +kernel
theorem dX5_putRate_12 : decode cX5_putRate 12 = .ok (.iload_n 2, 1) := by decide +kernel
theorem dX5_putRate_13 : decode cX5_putRate 13 = .ok (.iastore, 1) := by decide +kernel
theorem dX5_putRate_14 : decode cX5_putRate 14 = .ok (.aload_n 0, 1) := by decide +kernel
theorem dX5_putRate_15 : decode cX5_putRate 15 = .ok (.getfield 15, 3) := by decide +kernel
theorem dX5_putRate_18 : decode cX5_putRate 18 = .ok (.iload_n 1, 1) := by decide +kernel
theorem dX5_putRate_19 : decode cX5_putRate 19 = .ok (.iconst 1, 1) := by decide +kernel
theorem dX5_putRate_20 : decode cX5_putRate 20 = .ok (.iadd, 1) := by decide +kernel
theorem dX5_putRate_21 : decode cX5_putRate 21 = .ok (.aload_n 0, 1) := by decide +kernel
theorem dX5_putRate_22 : decode cX5_putRate 22 = .ok (.getfield 15, 3) := by decide +kernel
theorem dX5_putRate_25 : decode cX5_putRate 25 = .ok (.iload_n 1, 1) := by decide +kernel
theorem dX5_putRate_26 : decode cX5_putRate 26 = .ok (.iaload, 1) := by decide +kernel
theorem dX5_putRate_27 : decode cX5_putRate 27 = .ok (.iload_n 2, 1) := by decide +kernel
theorem dX5_putRate_28 : decode cX5_putRate 28 = .ok (.iadd, 1) := by decide +kernel
theorem dX5_putRate_29 : decode cX5_putRate 29 = .ok (.iastore, 1) := by decide +kernel
theorem dX5_putRate_30 : decode cX5_putRate 30 = .ok (.return_, 1) := by decide +kernel
set_option maxRecDepth 20000 in
theorem ggX5_isStart_X6_isDay : GoodIn wsX5_isStart wsX6_isDay := goodIn_r _ [4] (by decide +kernel) (by decide +kernel)
set_option maxRecDepth 20000 in
theorem gX5_isStart_X6_isDay_n18 : GoodIn wsX5_isStart (wsX6_isDay) := ggX5_isStart_X6_isDay
theorem dX5_isStart_0 : decode cX5_isStart 0 = .ok (.iload_n 1, 1) := by decide +kernel
theorem dX5_isStart_1 : decode cX5_isStart 1 = .ok (.invokestatic 18, 3) := by decide +kernel
theorem dX5_isStart_4 : decode cX5_isStart 4 = .ok (.ifCond .eq 37, 3) := by decide +kernel
theorem dX5_isStart_7 : decode cX5_isStart 7 = .ok (.aload_n 0, 1) := by decide +kernel
theorem dX5_isStart_8 : decode cX5_isStart 8 = .ok (.getfield 9, 3) := by decide +kernel
theorem dX5_isStart_11 : decode cX5_isStart 11 = .ok (.iload_n 1, 1) := by decide +kernel
theorem dX5_isStart_12 : decode cX5_isStart 12 = .ok (.iaload, 1) := by decide +kernel
theorem dX5_isStart_13 : decode cX5_isStart 13 = .ok (.ifCond .le 28, 3) := by decide +kernel
theorem dX5_isStart_16 : decode cX5_isStart 16 = .ok (.iload_n 1, 1) := by decide +kernel
theorem dX5_isStart_17 : decode cX5_isStart 17 = .ok (.ifCond .eq 20, 3) := by decide +kernel
theorem dX5_isStart_20 : decode cX5_isStart 20 = .ok (.aload_n 0, 1) := by decide +kernel
theorem dX5_isStart_21 : decode cX5_isStart 21 = .ok (.getfield 9, 3) := by decide +kernel
theorem dX5_isStart_24 : decode cX5_isStart 24 = .ok (.iload_n 1, 1) := by decide +kernel
theorem dX5_isStart_25 : decode cX5_isStart 25 = .ok (.iconst 1, 1) := by decide +kernel
theorem dX5_isStart_26 : decode cX5_isStart 26 = .ok (.isub, 1) := by decide +kernel
theorem dX5_isStart_27 : decode cX5_isStart 27 = .ok (.iaload, 1) := by decide +kernel
theorem dX5_isStart_28 : decode cX5_isStart 28 = .ok (.aload_n 0, 1) := by decide +kernel
theorem dX5_isStart_29 : decode cX5_isStart 29 = .ok (.getfield 9, 3) := by decide +kernel
theorem dX5_isStart_32 : decode cX5_isStart 32 = .ok (.iload_n 1, 1) := by decide +kernel
theorem dX5_isStart_33 : decode cX5_isStart 33 = .ok (.iaload, 1) := by decide +kernel
theorem dX5_isStart_34 : decode cX5_isStart 34 = .ok (.if_icmp .eq 7, 3) := by decide +kernel
theorem dX5_isStart_37 : decode cX5_isStart 37 = .ok (.iconst 1, 1) := by decide +kernel
theorem dX5_isStart_38 : decode cX5_isStart 38 = .ok (.goto 4, 3) := by decide +kernel
theorem dX5_isStart_41 : decode cX5_isStart 41 = .ok (.iconst 0, 1) := by decide +kernel
theorem dX5_isStart_42 : decode cX5_isStart 42 = .ok (.ireturn, 1) := by decide +kernel
set_option maxRecDepth 20000 in
theorem ggX5_countSegments_X5_isStart : GoodIn wsX5_countSegments wsX5_isStart := goodIn_r _ [5, 6, 7, 8, 9, 10, 11] (by decide +kernel) (by decide +kernel)
set_option maxRecDepth 20000 in
theorem gX5_countSegments_X5_isStart : GoodIn wsX5_countSegments (wsV RX5 22 RX5 yX5_isStart wsX5_isStart) := goodIn_app (goodIn_of _ (by decide +kernel)) ggX5_countSegments_X5_isStart
theorem dX5_countSegments_0 : decode cX5_countSegments 0 = .ok (.iconst 0, 1) := by decide +kernel
theorem dX5_countSegments_1 : decode cX5_countSegments 1 = .ok (.istore_n 1, 1) := by decide +kernel
theorem dX5_countSegments_2 : decode cX5_countSegments 2 = .ok (.iconst 0, 1) := by decide +kernel
theorem dX5_countSegments_3 : decode cX5_countSegments 3 = .ok (.istore_n 2, 1) := by decide +kernel
theorem dX5_countSegments_4 : decode cX5_countSegments 4 = .ok (.iload_n 2, 1) := by decide +kernel
theorem dX5_countSegments_5 : decode cX5_countSegments 5 = .ok (.sipush 365, 3) := by decide +kernel
theorem dX5_countSegments_8 : decode cX5_countSegments 8 = .ok (.if_icmp .ge 20, 3) := by decide +kernel
theorem dX5_countSegments_11 : decode cX5_countSegments 11 = .ok (.aload_n 0, 1) := by decide +kernel
theorem dX5_countSegments_12 : decode cX5_countSegments 12 = .ok (.iload_n 2, 1) := by decide +kernel
theorem dX5_countSegments_13 : decode cX5_countSegments 13 = .ok (.invokevirtual 22, 3) := by decide +kernel
theorem dX5_countSegments_16 : decode cX5_countSegments 16 = .ok (.ifCond .eq 6, 3) := by decide +kernel
theorem dX5_countSegments_19 : decode cX5_countSegments 19 = .ok (.iinc 1 1, 3) := by decide +kernel
theorem dX5_countSegments_22 : decode cX5_countSegments 22 = .ok (.iinc 2 1, 3) := by decide +kernel
theorem dX5_countSegments_25 : decode cX5_countSegments 25 = .ok (.goto (-21), 3) := by decide +kernel
theorem dX5_countSegments_28 : decode cX5_countSegments 28 = .ok (.iload_n 1, 1) := by decide +kernel
theorem dX5_countSegments_29 : decode cX5_countSegments 29 = .ok (.ireturn, 1) := by decide +kernel
set_option maxRecDepth 20000 in
theorem ggX5_startOf_X5_isStart : GoodIn wsX5_startOf wsX5_isStart := goodIn_r _ [5, 6, 7, 8, 9, 10, 11] (by decide +kernel) (by decide +kernel)
set_option maxRecDepth 20000 in
theorem gX5_startOf_X5_isStart : GoodIn wsX5_startOf (wsV RX5 22 RX5 yX5_isStart wsX5_isStart) := goodIn_app (goodIn_of _ (by decide +kernel)) ggX5_startOf_X5_isStart
theorem dX5_startOf_0 : decode cX5_startOf 0 = .ok (.iconst 0, 1) := by decide +kernel
theorem dX5_startOf_1 : decode cX5_startOf 1 = .ok (.istore_n 2, 1) := by decide +kernel
theorem dX5_startOf_2 : decode cX5_startOf 2 = .ok (.iconst 0, 1) := by decide +kernel
theorem dX5_startOf_3 : decode cX5_startOf 3 = .ok (.istore_n 3, 1) := by decide +kernel
theorem dX5_startOf_4 : decode cX5_startOf 4 = .ok (.iload_n 3, 1) := by decide +kernel
theorem dX5_startOf_5 : decode cX5_startOf 5 = .ok (.sipush 365, 3) := by decide +kernel
theorem dX5_startOf_8 : decode cX5_startOf 8 = .ok (.if_icmp .ge 27, 3) := by decide +kernel
theorem dX5_startOf_11 : decode cX5_startOf 11 = .ok (.aload_n 0, 1) := by decide +kernel
theorem dX5_startOf_12 : decode cX5_startOf 12 = .ok (.iload_n 3, 1) := by decide +kernel
theorem dX5_startOf_13 : decode cX5_startOf 13 = .ok (.invokevirtual 22, 3) := by decide +kernel
theorem dX5_startOf_16 : decode cX5_startOf 16 = .ok (.ifCond .eq 13, 3) := by decide +kernel
theorem dX5_startOf_19 : decode cX5_startOf 19 = .ok (.iload_n 2, 1) := by decide +kernel
theorem dX5_startOf_20 : decode cX5_startOf 20 = .ok (.iload_n 1, 1) := by decide +kernel
theorem dX5_startOf_21 : decode cX5_startOf 21 = .ok (.if_icmp .ne 5, 3) := by decide +kernel
theorem dX5_startOf_24 : decode cX5_startOf 24 = .ok (.iload_n 3, 1) := by decide +kernel
theorem dX5_startOf_25 : decode cX5_startOf 25 = .ok (.ireturn, 1) := by decide +kernel
theorem dX5_startOf_26 : decode cX5_startOf 26 = .ok (.iinc 2 1, 3) := by decide +kernel
theorem dX5_startOf_29 : decode cX5_startOf 29 = .ok (.iinc 3 1, 3) := by decide +kernel
theorem dX5_startOf_32 : decode cX5_startOf 32 = .ok (.goto (-28), 3) := by decide +kernel
theorem dX5_startOf_35 : decode cX5_startOf 35 = .ok (.iconst (-1), 1) := by decide +kernel
theorem dX5_startOf_36 : decode cX5_startOf 36 = .ok (.ireturn, 1) := by decide +kernel
set_option maxRecDepth 20000 in
theorem ggX5_dayBehindSegmentFrom_X6_isDay : GoodIn wsX5_dayBehindSegmentFrom wsX6_isDay := goodIn_r _ [4] (by decide +kernel) (by decide +kernel)
set_option maxRecDepth 20000 in
theorem gX5_dayBehindSegmentFrom_X6_isDay_n18 : GoodIn wsX5_dayBehindSegmentFrom (wsX6_isDay) := ggX5_dayBehindSegmentFrom_X6_isDay
theorem dX5_dayBehindSegmentFrom_0 : decode cX5_dayBehindSegmentFrom 0 = .ok (.iload_n 1, 1) := by decide +kernel
theorem dX5_dayBehindSegmentFrom_1 : decode cX5_dayBehindSegmentFrom 1 = .ok (.istore_n 2, 1) := by decide +kernel
theorem dX5_dayBehindSegmentFrom_2 : decode cX5_dayBehindSegmentFrom 2 = .ok (.iload_n 2, 1) := by decide +kernel
theorem dX5_dayBehindSegmentFrom_3 : decode cX5_dayBehindSegmentFrom 3 = .ok (.invokestatic 18, 3) := by decide +kernel
theorem dX5_dayBehindSegmentFrom_6 : decode cX5_dayBehindSegmentFrom 6 = .ok (.ifCond .eq 31, 3) := by decide +kernel
theorem dX5_dayBehindSegmentFrom_9 : decode cX5_dayBehindSegmentFrom 9 = .ok (.iload_n 1, 1) := by decide +kernel
theorem dX5_dayBehindSegmentFrom_10 : decode cX5_dayBehindSegmentFrom 10 = .ok (.invokestatic 18, 3) := by decide +kernel
theorem dX5_dayBehindSegmentFrom_13 : decode cX5_dayBehindSegmentFrom 13 = .ok (.ifCond .eq 24, 3) := by decide +kernel
theorem dX5_dayBehindSegmentFrom_16 : decode cX5_dayBehindSegmentFrom 16 = .ok (.aload_n 0, 1) := by decide +kernel
theorem dX5_dayBehindSegmentFrom_17 : decode cX5_dayBehindSegmentFrom 17 = .ok (.getfield 9, 3) := by decide +kernel
theorem dX5_dayBehindSegmentFrom_20 : decode cX5_dayBehindSegmentFrom 20 = .ok (.iload_n 2, 1) := by decide +kernel
theorem dX5_dayBehindSegmentFrom_21 : decode cX5_dayBehindSegmentFrom 21 = .ok (.iaload, 1) := by decide +kernel
theorem dX5_dayBehindSegmentFrom_22 : decode cX5_dayBehindSegmentFrom 22 = .ok (.aload_n 0, 1) := by decide +kernel
theorem dX5_dayBehindSegmentFrom_23 : decode cX5_dayBehindSegmentFrom 23 = .ok (.getfield 9, 3) := by decide +kernel
theorem dX5_dayBehindSegmentFrom_26 : decode cX5_dayBehindSegmentFrom 26 = .ok (.iload_n 1, 1) := by decide +kernel
theorem dX5_dayBehindSegmentFrom_27 : decode cX5_dayBehindSegmentFrom 27 = .ok (.iaload, 1) := by decide +kernel
theorem dX5_dayBehindSegmentFrom_28 : decode cX5_dayBehindSegmentFrom 28 = .ok (.if_icmp .ne 9, 3) := by decide +kernel
theorem dX5_dayBehindSegmentFrom_31 : decode cX5_dayBehindSegmentFrom 31 = .ok (.iinc 2 1, 3) := by decide +kernel
theorem dX5_dayBehindSegmentFrom_34 : decode cX5_dayBehindSegmentFrom 34 = .ok (.goto (-32), 3) := by decide +kernel
theorem dX5_dayBehindSegmentFrom_37 : decode cX5_dayBehindSegmentFrom 37 = .ok (.iload_n 2, 1) := by decide +kernel
theorem dX5_dayBehindSegmentFrom_38 : decode cX5_dayBehindSegmentFrom 38 = .ok (.ireturn, 1) := by decide +kernel
theorem dX5_chargeUpTo_0 : decode cX5_chargeUpTo 0 = .ok (.iload_n 1, 1) := by decide +kernel
theorem dX5_chargeUpTo_1 : decode cX5_chargeUpTo 1 = .ok (.ifCond .lt 23, 3) := by decide +kernel
theorem dX5_chargeUpTo_4 : decode cX5_chargeUpTo 4 = .ok (.iload_n 1, 1) := by decide +kernel
theorem dX5_chargeUpTo_5 : decode cX5_chargeUpTo 5 = .ok (.sipush 365, 3) := by decide +kernel
theorem dX5_chargeUpTo_8 : decode cX5_chargeUpTo 8 = .ok (.if_icmp .gt 16, 3) := by decide +kernel
theorem dX5_chargeUpTo_11 : decode cX5_chargeUpTo 11 = .ok (.aload_n 0, 1) := by decide +kernel
theorem dX5_chargeUpTo_12 : decode cX5_chargeUpTo 12 = .ok (.getfield 15, 3) := by decide +kernel
theorem dX5_chargeUpTo_15 : decode cX5_chargeUpTo 15 = .ok (.iload_n 1, 1) := by decide +kernel
theorem dX5_chargeUpTo_16 : decode cX5_chargeUpTo 16 = .ok (.iaload, 1) := by decide +kernel
theorem dX5_chargeUpTo_17 : decode cX5_chargeUpTo 17 = .ok (.sipush 365, 3) := by decide +kernel
theorem dX5_chargeUpTo_20 : decode cX5_chargeUpTo 20 = .ok (.idiv, 1) := by decide +kernel
theorem dX5_chargeUpTo_21 : decode cX5_chargeUpTo 21 = .ok (.goto 4, 3) := by decide +kernel
theorem dX5_chargeUpTo_24 : decode cX5_chargeUpTo 24 = .ok (.iconst 0, 1) := by decide +kernel
theorem dX5_chargeUpTo_25 : decode cX5_chargeUpTo 25 = .ok (.ireturn, 1) := by decide +kernel
set_option maxRecDepth 20000 in
theorem ggX5_premiumOfSegmentFrom_X5_dayBehindSegmentFrom : GoodIn wsX5_premiumOfSegmentFrom wsX5_dayBehindSegmentFrom := goodIn_r _ [5, 6, 7, 8, 9, 15, 16] (by decide +kernel) (by decide +kernel)
set_option maxRecDepth 20000 in
theorem gX5_premiumOfSegmentFrom_X5_dayBehindSegmentFrom : GoodIn wsX5_premiumOfSegmentFrom (wsV RX5 25 RX5 yX5_dayBehindSegmentFrom wsX5_dayBehindSegmentFrom) := goodIn_app (goodIn_of _ (by decide +kernel)) ggX5_premiumOfSegmentFrom_X5_dayBehindSegmentFrom
set_option maxRecDepth 20000 in
theorem ggX5_premiumOfSegmentFrom_X5_chargeUpTo : GoodIn wsX5_premiumOfSegmentFrom wsX5_chargeUpTo := goodIn_r _ [13, 14, 15, 16] (by decide +kernel) (by decide +kernel)
set_option maxRecDepth 20000 in
theorem gX5_premiumOfSegmentFrom_X5_chargeUpTo : GoodIn wsX5_premiumOfSegmentFrom (wsV RX5 29 RX5 yX5_chargeUpTo wsX5_chargeUpTo) := goodIn_app (goodIn_of _ (by decide +kernel)) ggX5_premiumOfSegmentFrom_X5_chargeUpTo
theorem dX5_premiumOfSegmentFrom_0 : decode cX5_premiumOfSegmentFrom 0 = .ok (.aload_n 0, 1) := by decide +kernel
theorem dX5_premiumOfSegmentFrom_1 : decode cX5_premiumOfSegmentFrom 1 = .ok (.aload_n 0, 1) := by decide +kernel
theorem dX5_premiumOfSegmentFrom_2 : decode cX5_premiumOfSegmentFrom 2 = .ok (.iload_n 1, 1) := by decide +kernel
theorem dX5_premiumOfSegmentFrom_3 : decode cX5_premiumOfSegmentFrom 3 = .ok (.invokevirtual 25, 3) := by decide +kernel
theorem dX5_premiumOfSegmentFrom_6 : decode cX5_premiumOfSegmentFrom 6 = .ok (.invokevirtual 29, 3) := by decide +kernel
theorem dX5_premiumOfSegmentFrom_9 : decode cX5_premiumOfSegmentFrom 9 = .ok (.aload_n 0, 1) := by decide +kernel
theorem dX5_premiumOfSegmentFrom_10 : decode cX5_premiumOfSegmentFrom 10 = .ok (.iload_n 1, 1) := by decide +kernel
theorem dX5_premiumOfSegmentFrom_11 : decode cX5_premiumOfSegmentFrom 11 = .ok (.invokevirtual 29, 3) := by decide +kernel
theorem dX5_premiumOfSegmentFrom_14 : decode cX5_premiumOfSegmentFrom 14 = .ok (.isub, 1) := by decide +kernel
theorem dX5_premiumOfSegmentFrom_15 : decode cX5_premiumOfSegmentFrom 15 = .ok (.ireturn, 1) := by decide +kernel
set_option maxRecDepth 20000 in
theorem ggX5_sumOfPremiums_X5_isStart : GoodIn wsX5_sumOfPremiums wsX5_isStart := goodIn_r _ [5, 6, 7, 8, 9, 23, 24] (by decide +kernel) (by decide +kernel)
set_option maxRecDepth 20000 in
theorem gX5_sumOfPremiums_X5_isStart : GoodIn wsX5_sumOfPremiums (wsV RX5 22 RX5 yX5_isStart wsX5_isStart) := goodIn_app (goodIn_of _ (by decide +kernel)) ggX5_sumOfPremiums_X5_isStart
set_option maxRecDepth 20000 in
theorem ggX5_sumOfPremiums_X5_premiumOfSegmentFrom : GoodIn wsX5_sumOfPremiums wsX5_premiumOfSegmentFrom := goodIn_r _ [13, 14, 15, 16, 4, 17, 6, 7, 8, 9, 18, 19, 20, 21, 22, 23, 24] (by decide +kernel) (by decide +kernel)
set_option maxRecDepth 20000 in
theorem gX5_sumOfPremiums_X5_premiumOfSegmentFrom : GoodIn wsX5_sumOfPremiums (wsV RX5 32 RX5 yX5_premiumOfSegmentFrom wsX5_premiumOfSegmentFrom) := goodIn_app (goodIn_of _ (by decide +kernel)) ggX5_sumOfPremiums_X5_premiumOfSegmentFrom
theorem dX5_sumOfPremiums_0 : decode cX5_sumOfPremiums 0 = .ok (.iconst 0, 1) := by decide +kernel
theorem dX5_sumOfPremiums_1 : decode cX5_sumOfPremiums 1 = .ok (.istore_n 1, 1) := by decide +kernel
theorem dX5_sumOfPremiums_2 : decode cX5_sumOfPremiums 2 = .ok (.iconst 0, 1) := by decide +kernel
theorem dX5_sumOfPremiums_3 : decode cX5_sumOfPremiums 3 = .ok (.istore_n 2, 1) := by decide +kernel
theorem dX5_sumOfPremiums_4 : decode cX5_sumOfPremiums 4 = .ok (.iload_n 2, 1) := by decide +kernel
theorem dX5_sumOfPremiums_5 : decode cX5_sumOfPremiums 5 = .ok (.sipush 365, 3) := by decide +kernel
theorem dX5_sumOfPremiums_8 : decode cX5_sumOfPremiums 8 = .ok (.if_icmp .ge 25, 3) := by decide +kernel
theorem dX5_sumOfPremiums_11 : decode cX5_sumOfPremiums 11 = .ok (.aload_n 0, 1) := by decide +kernel
theorem dX5_sumOfPremiums_12 : decode cX5_sumOfPremiums 12 = .ok (.iload_n 2, 1) := by decide +kernel
theorem dX5_sumOfPremiums_13 : decode cX5_sumOfPremiums 13 = .ok (.invokevirtual 22, 3) := by decide +kernel
theorem dX5_sumOfPremiums_16 : decode cX5_sumOfPremiums 16 = .ok (.ifCond .eq 11, 3) := by decide +kernel
theorem dX5_sumOfPremiums_19 : decode cX5_sumOfPremiums 19 = .ok (.iload_n 1, 1) := by decide +kernel
theorem dX5_sumOfPremiums_20 : decode cX5_sumOfPremiums 20 = .ok (.aload_n 0, 1) := by decide +kernel
theorem dX5_sumOfPremiums_21 : decode cX5_sumOfPremiums 21 = .ok (.iload_n 2, 1) := by decide +kernel
theorem dX5_sumOfPremiums_22 : decode cX5_sumOfPremiums 22 = .ok (.invokevirtual 32, 3) := by decide +kernel
theorem dX5_sumOfPremiums_25 : decode cX5_sumOfPremiums 25 = .ok (.iadd, 1) := by decide +kernel
theorem dX5_sumOfPremiums_26 : decode cX5_sumOfPremiums 26 = .ok (.istore_n 1, 1) := by decide +kernel
theorem dX5_sumOfPremiums_27 : decode cX5_sumOfPremiums 27 = .ok (.iinc 2 1, 3) := by decide +kernel
theorem dX5_sumOfPremiums_30 : decode cX5_sumOfPremiums 30 = .ok (.goto (-26), 3) := by decide +kernel
theorem dX5_sumOfPremiums_33 : decode cX5_sumOfPremiums 33 = .ok (.iload_n 1, 1) := by decide +kernel
theorem dX5_sumOfPremiums_34 : decode cX5_sumOfPremiums 34 = .ok (.ireturn, 1) := by decide +kernel
end
section
set_option maxRecDepth 20000 in
theorem ggX6_init_Jx4a65c_init_da8c8 : GoodIn wsX6_init wsJx4a65c_init_da8c8 := goodIn_r _ [24, 25, 26, 27, 28, 29, 30, 31, 32, 33, 34, 35, 36, 2, 3, 60, 61, 62] (by decide +kernel) (by decide +kernel)
set_option maxRecDepth 20000 in
theorem gX6_init_Jx4a65c_init_da8c8 : GoodIn wsX6_init (wsJx4a65c_init_da8c8) := ggX6_init_Jx4a65c_init_da8c8
set_option maxRecDepth 20000 in
theorem ggX6_init_X3_init : GoodIn wsX6_init wsX3_init := goodIn_r _ [39, 40, 2, 3, 41, 42, 43, 44, 45, 46, 47, 48, 49, 69, 70, 71] (by decide +kernel) (by decide +kernel)
set_option maxRecDepth 20000 in
theorem gX6_init_X3_init : GoodIn wsX6_init (wsX3_init) := ggX6_init_X3_init
set_option maxRecDepth 20000 in
theorem ggX6_init_X4_init : GoodIn wsX6_init wsX4_init := goodIn_r _ [51, 52, 2, 3, 42, 53, 54, 72, 73] (by decide +kernel) (by decide +kernel)
set_option maxRecDepth 20000 in
theorem gX6_init_X4_init_n28 : GoodIn wsX6_init (wsX4_init) := ggX6_init_X4_init
set_option maxRecDepth 20000 in
theorem ggX6_init_X5_init : GoodIn wsX6_init wsX5_init := goodIn_r _ [56, 57, 2, 3, 42, 58, 59, 74, 75] (by decide +kernel) (by decide +kernel)
set_option maxRecDepth 20000 in
theorem gX6_init_X5_init_n35 : GoodIn wsX6_init (wsX5_init) := ggX6_init_X5_init
theorem dX6_init_0 : decode cX6_init 0 = .ok (.aload_n 0, 1) := by decide +kernel
theorem dX6_init_1 : decode cX6_init 1 = .ok (.invokespecial 1, 3) := by decide +kernel
theorem dX6_init_4 : decode cX6_init 4 = .ok (.aload_n 0, 1) := by decide +kernel
theorem dX6_init_5 : decode cX6_init 5 = .ok (.new 7, 3) := by decide +kernel
theorem dX6_init_8 : decode cX6_init 8 = .ok (.dup, 1) := by decide +kernel
theorem dX6_init_9 : decode cX6_init 9 = .ok (.invokespecial 9, 3) := by decide +kernel
theorem dX6_init_12 : decode cX6_init 12 = .ok (.putfield 10, 3) := by decide +kernel
theorem dX6_init_15 : decode cX6_init 15 = .ok (.aload_n 0, 1) := by decide +kernel
theorem dX6_init_16 : decode cX6_init 16 = .ok (.new 7, 3) := by decide +kernel
theorem dX6_init_19 : decode cX6_init 19 = .ok (.dup, 1) := by decide +kernel
theorem dX6_init_20 : decode cX6_init 20 = .ok (.invokespecial 9, 3) := by decide +kernel
theorem dX6_init_23 : decode cX6_init 23 = .ok (.putfield 16, 3) := by decide +kernel
theorem dX6_init_26 : decode cX6_init 26 = .ok (.aload_n 0, 1) := by decide +kernel
theorem dX6_init_27 : decode cX6_init 27 = .ok (.new 19, 3) := by decide +kernel
theorem dX6_init_30 : decode cX6_init 30 = .ok (.dup, 1) := by decide +kernel
theorem dX6_init_31 : decode cX6_init 31 = .ok (.invokespecial 21, 3) := by decide +kernel
theorem dX6_init_34 : decode cX6_init 34 = .ok (.putfield 22, 3) := by decide +kernel
theorem dX6_init_37 : decode cX6_init 37 = .ok (.aload_n 0, 1) := by decide +kernel
theorem dX6_init_38 : decode cX6_init 38 = .ok (.new 26, 3) := by decide +kernel
theorem dX6_init_41 : decode cX6_init 41 = .ok (.dup, 1) := by decide +kernel
theorem dX6_init_42 : decode cX6_init 42 = .ok (.invokespecial 28, 3) := by decide +kernel
theorem dX6_init_45 : decode cX6_init 45 = .ok (.putfield 29, 3) := by decide +kernel
theorem dX6_init_48 : decode cX6_init 48 = .ok (.aload_n 0, 1) := by decide +kernel
theorem dX6_init_49 : decode cX6_init 49 = .ok (.new 33, 3) := by decide +kernel
theorem dX6_init_52 : decode cX6_init 52 = .ok (.dup, 1) := by decide +kernel
theorem dX6_init_53 : decode cX6_init 53 = .ok (.invokespecial 35, 3) := by decide +kernel
theorem dX6_init_56 : decode cX6_init 56 = .ok (.putfield 36, 3) := by decide +kernel
theorem dX6_init_59 : decode cX6_init 59 = .ok (.aload_n 0, 1) := by decide +kernel
theorem dX6_init_60 : decode cX6_init 60 = .ok (.iconst 0, 1) := by decide +kernel
theorem dX6_init_61 : decode cX6_init 61 = .ok (.putfield 40, 3) := by decide +kernel
theorem dX6_init_64 : decode cX6_init 64 = .ok (.return_, 1) := by decide +kernel
set_option maxRecDepth 20000 in
theorem ggX6_open_X6_demandWithin : GoodIn wsX6_open wsX6_demandWithin := goodIn_ca (goodIn_r _ [10, 11, 12] (by decide +kernel) (by decide +kernel)) (goodIn_sub (fun _ h => List.mem_cons_of_mem _ (List.mem_append_right _ h)) (by decide +kernel))
set_option maxRecDepth 20000 in
theorem gX6_open_X6_demandWithin : GoodIn wsX6_open (va_wsS RX6 44 yX6_demandWithin wsX6_demandWithin) := goodIn_app (goodIn_of _ (by decide +kernel)) ggX6_open_X6_demandWithin
set_option maxRecDepth 20000 in
theorem ggX6_open_Jx4a65c_size_8abf5 : GoodIn wsX6_open wsJx4a65c_size_8abf5 := goodIn_r _ [17, 18, 106, 107, 108] (by decide +kernel) (by decide +kernel)
set_option maxRecDepth 20000 in
theorem gX6_open_Jx4a65c_size_8abf5_f48Jx4a65c : GoodIn wsX6_open (va_wsF RX6 48 RJx4a65c ⟨"java/util/List", "size", "()I"⟩ yJx4a65c_size_8abf5 wsJx4a65c_size_8abf5) := goodIn_app (goodIn_of _ (by decide +kernel)) ggX6_open_Jx4a65c_size_8abf5
set_option maxRecDepth 20000 in
theorem ggX6_open_X2_init : GoodIn wsX6_open wsX2_init := goodIn_r _ [21, 22, 23, 24, 25, 26, 16, 27, 28, 29, 30, 31, 32, 33, 34, 35, 36, 37, 38, 39, 40, 41, 42, 43, 44, 106, 107, 108, 103, 104, 105] (by decide +kernel) (by decide +kernel)
set_option maxRecDepth 20000 in
theorem gX6_open_X2_init : GoodIn wsX6_open (wsX2_init) := ggX6_open_X2_init
set_option maxRecDepth 20000 in
theorem ggX6_open_Jx4a65c_add_9ea2d : GoodIn wsX6_open wsJx4a65c_add_9ea2d := goodIn_r _ [48, 49, 50, 34, 18, 51, 52, 53, 16, 54, 55, 56, 57, 58, 59, 60, 61, 62, 33, 63, 64, 65, 66, 67, 68, 69, 70, 71, 72, 73, 74, 75, 76, 77, 78, 79, 80, 81, 82, 83, 84, 85, 86, 87, 88, 89, 90, 91, 92, 93, 94, 95, 96, 106, 107, 108] (by decide +kernel) (by decide +kernel)
set_option maxRecDepth 20000 in
theorem gX6_open_Jx4a65c_add_9ea2d_f66Jx4a65c : GoodIn wsX6_open (va_wsF RX6 66 RJx4a65c ⟨"java/util/List", "add", "(Ljava/lang/Object;)Z"⟩ yJx4a65c_add_9ea2d wsJx4a65c_add_9ea2d) := goodIn_app (goodIn_of _ (by decide +kernel)) ggX6_open_Jx4a65c_add_9ea2d
theorem dX6_open_0 : decode cX6_open 0 = .ok (.iload_n 1, 1) := by decide +kernel
theorem dX6_open_1 : decode cX6_open 1 = .ok (.iconst 1, 1) := by decide +kernel
theorem dX6_open_2 : decode cX6_open 2 = .ok (.sipush 1000, 3) := by decide +kernel
theorem dX6_open_5 : decode cX6_open 5 = .ok (.invokestatic 44, 3) := by decide +kernel
theorem dX6_open_8 : decode cX6_open 8 = .ok (.aload_n 0, 1) := by decide +kernel
theorem dX6_open_9 : decode cX6_open 9 = .ok (.getfield 10, 3) := by decide +kernel
theorem dX6_open_12 : decode cX6_open 12 = .ok (.invokeinterface 48 1, 5) := by decide +kernel
theorem dX6_open_17 : decode cX6_open 17 = .ok (.iconst 4, 1) := by decide +kernel
theorem dX6_open_18 : decode cX6_open 18 = .ok (.if_icmp .lt 13, 3) := by decide +kernel
theorem dX6_open_21 : decode cX6_open 21 = .ok (.new 54, 3) := by decide +kernel
theorem dX6_open_24 : decode cX6_open 24 = .ok (.dup, 1) := by decide +kernel
theorem dX6_open_25 : decode cX6_open 25 = .ok (.ldc 56, 2) := by decide +kernel
theorem dX6_open_27 : decode cX6_open 27 = .ok (.invokespecial 58, 3) := by decide +kernel
theorem dX6_open_30 : decode cX6_open 30 = .ok (.athrow, 1) := by decide +kernel
theorem dX6_open_31 : decode cX6_open 31 = .ok (.aload_n 0, 1) := by decide +kernel
theorem dX6_open_32 : decode cX6_open 32 = .ok (.getfield 10, 3) := by decide +kernel
theorem dX6_open_35 : decode cX6_open 35 = .ok (.new 61, 3) := by decide +kernel
theorem dX6_open_38 : decode cX6_open 38 = .ok (.dup, 1) := by decide +kernel
theorem dX6_open_39 : decode cX6_open 39 = .ok (.iload_n 1, 1) := by decide +kernel
theorem dX6_open_40 : decode cX6_open 40 = .ok (.invokespecial 63, 3) := by decide +kernel
theorem dX6_open_43 : decode cX6_open 43 = .ok (.invokeinterface 66 2, 5) := by decide +kernel
theorem dX6_open_48 : decode cX6_open 48 = .ok (.pop, 1) := by decide +kernel
theorem dX6_open_49 : decode cX6_open 49 = .ok (.aload_n 0, 1) := by decide +kernel
theorem dX6_open_50 : decode cX6_open 50 = .ok (.getfield 10, 3) := by decide +kernel
theorem dX6_open_53 : decode cX6_open 53 = .ok (.invokeinterface 48 1, 5) := by decide +kernel
theorem dX6_open_58 : decode cX6_open 58 = .ok (.iconst 1, 1) := by decide +kernel
theorem dX6_open_59 : decode cX6_open 59 = .ok (.isub, 1) := by decide +kernel
theorem dX6_open_60 : decode cX6_open 60 = .ok (.ireturn, 1) := by decide +kernel
set_option maxRecDepth 20000 in
theorem ggX6_setWeight_X6_demandField : GoodIn wsX6_setWeight wsX6_demandField := goodIn_ca (goodIn_r _ [8, 9, 10, 11, 12, 7, 13] (by decide +kernel) (by decide +kernel)) (goodIn_sub (fun _ h => List.mem_cons_of_mem _ (List.mem_append_left _ (List.mem_append_right _ h))) (by decide +kernel))
set_option maxRecDepth 20000 in
theorem gX6_setWeight_X6_demandField : GoodIn wsX6_setWeight (va_wsS RX6 70 yX6_demandField wsX6_demandField) := goodIn_app (goodIn_of _ (by decide +kernel)) ggX6_setWeight_X6_demandField
set_option maxRecDepth 20000 in
theorem ggX6_setWeight_X6_demandWithin : GoodIn wsX6_setWeight wsX6_demandWithin := goodIn_ca (goodIn_r _ [16, 17, 18] (by decide +kernel) (by decide +kernel)) (goodIn_sub (fun _ h => List.mem_cons_of_mem _ (List.mem_append_right _ h)) (by decide +kernel))
set_option maxRecDepth 20000 in
theorem gX6_setWeight_X6_demandWithin : GoodIn wsX6_setWeight (va_wsS RX6 44 yX6_demandWithin wsX6_demandWithin) := goodIn_app (goodIn_of _ (by decide +kernel)) ggX6_setWeight_X6_demandWithin
set_option maxRecDepth 20000 in
theorem ggX6_setWeight_X6_demandDay : GoodIn wsX6_setWeight wsX6_demandDay := goodIn_ca (goodIn_r _ [21, 14, 15, 7, 16, 17, 18] (by decide +kernel) (by decide +kernel)) (goodIn_sub (fun _ h => List.mem_cons_of_mem _ (List.mem_append_right _ h)) (by decide +kernel))
set_option maxRecDepth 20000 in
theorem gX6_setWeight_X6_demandDay : GoodIn wsX6_setWeight (va_wsS RX6 73 yX6_demandDay wsX6_demandDay) := goodIn_app (goodIn_of _ (by decide +kernel)) ggX6_setWeight_X6_demandDay
set_option maxRecDepth 20000 in
theorem ggX6_setWeight_X3_tell : GoodIn wsX6_setWeight wsX3_tell := goodIn_r _ [26, 27, 28, 29, 12, 7, 13, 36, 37, 38] (by decide +kernel) (by decide +kernel)
set_option maxRecDepth 20000 in
theorem gX6_setWeight_X3_tell : GoodIn wsX6_setWeight (wsV RX6 81 RX3 yX3_tell wsX3_tell) := goodIn_app (goodIn_of _ (by decide +kernel)) ggX6_setWeight_X3_tell
theorem dX6_setWeight_0 : decode cX6_setWeight 0 = .ok (.iload_n 1, 1) := by decide +kernel
theorem dX6_setWeight_1 : decode cX6_setWeight 1 = .ok (.invokestatic 70, 3) := by decide +kernel
theorem dX6_setWeight_4 : decode cX6_setWeight 4 = .ok (.iload_n 2, 1) := by decide +kernel
theorem dX6_setWeight_5 : decode cX6_setWeight 5 = .ok (.iconst 0, 1) := by decide +kernel
theorem dX6_setWeight_6 : decode cX6_setWeight 6 = .ok (.bipush 100, 2) := by decide +kernel
theorem dX6_setWeight_8 : decode cX6_setWeight 8 = .ok (.invokestatic 44, 3) := by decide +kernel
theorem dX6_setWeight_11 : decode cX6_setWeight 11 = .ok (.iload_n 3, 1) := by decide +kernel
theorem dX6_setWeight_12 : decode cX6_setWeight 12 = .ok (.invokestatic 73, 3) := by decide +kernel
theorem dX6_setWeight_15 : decode cX6_setWeight 15 = .ok (.aload_n 0, 1) := by decide +kernel
theorem dX6_setWeight_16 : decode cX6_setWeight 16 = .ok (.getfield 22, 3) := by decide +kernel
theorem dX6_setWeight_19 : decode cX6_setWeight 19 = .ok (.getfield 76, 3) := by decide +kernel
theorem dX6_setWeight_22 : decode cX6_setWeight 22 = .ok (.bipush 20, 2) := by decide +kernel
theorem dX6_setWeight_24 : decode cX6_setWeight 24 = .ok (.if_icmp .lt 13, 3) := by decide +kernel
theorem dX6_setWeight_27 : decode cX6_setWeight 27 = .ok (.new 54, 3) := by decide +kernel
theorem dX6_setWeight_30 : decode cX6_setWeight 30 = .ok (.dup, 1) := by decide +kernel
theorem dX6_setWeight_31 : decode cX6_setWeight 31 = .ok (.ldc 79, 2) := by decide +kernel
theorem dX6_setWeight_33 : decode cX6_setWeight 33 = .ok (.invokespecial 58, 3) := by decide +kernel
theorem dX6_setWeight_36 : decode cX6_setWeight 36 = .ok (.athrow, 1) := by decide +kernel
theorem dX6_setWeight_37 : decode cX6_setWeight 37 = .ok (.aload_n 0, 1) := by decide +kernel
theorem dX6_setWeight_38 : decode cX6_setWeight 38 = .ok (.getfield 22, 3) := by decide +kernel
theorem dX6_setWeight_41 : decode cX6_setWeight 41 = .ok (.iload_n 1, 1) := by decide +kernel
theorem dX6_setWeight_42 : decode cX6_setWeight 42 = .ok (.iload_n 2, 1) := by decide +kernel
theorem dX6_setWeight_43 : decode cX6_setWeight 43 = .ok (.iload_n 3, 1) := by decide +kernel
theorem dX6_setWeight_44 : decode cX6_setWeight 44 = .ok (.invokevirtual 81, 3) := by decide +kernel
theorem dX6_setWeight_47 : decode cX6_setWeight 47 = .ok (.aload_n 0, 1) := by decide +kernel
theorem dX6_setWeight_48 : decode cX6_setWeight 48 = .ok (.getfield 22, 3) := by decide +kernel
theorem dX6_setWeight_51 : decode cX6_setWeight 51 = .ok (.getfield 76, 3) := by decide +kernel
theorem dX6_setWeight_54 : decode cX6_setWeight 54 = .ok (.ireturn, 1) := by decide +kernel
set_option maxRecDepth 20000 in
theorem ggX6_pass_X6_demandWithin : GoodIn wsX6_pass wsX6_demandWithin := goodIn_ca (goodIn_r _ [5, 6, 7] (by decide +kernel) (by decide +kernel)) (goodIn_sub (fun _ h => List.mem_cons_of_mem _ (List.mem_append_right _ h)) (by decide +kernel))
set_option maxRecDepth 20000 in
theorem gX6_pass_X6_demandWithin : GoodIn wsX6_pass (va_wsS RX6 44 yX6_demandWithin wsX6_demandWithin) := goodIn_app (goodIn_of _ (by decide +kernel)) ggX6_pass_X6_demandWithin
theorem dX6_pass_0 : decode cX6_pass 0 = .ok (.iload_n 1, 1) := by decide +kernel
theorem dX6_pass_1 : decode cX6_pass 1 = .ok (.iconst 1, 1) := by decide +kernel
theorem dX6_pass_2 : decode cX6_pass 2 = .ok (.bipush 100, 2) := by decide +kernel
theorem dX6_pass_4 : decode cX6_pass 4 = .ok (.invokestatic 44, 3) := by decide +kernel
theorem dX6_pass_7 : decode cX6_pass 7 = .ok (.aload_n 0, 1) := by decide +kernel
theorem dX6_pass_8 : decode cX6_pass 8 = .ok (.dup, 1) := by decide +kernel
theorem dX6_pass_9 : decode cX6_pass 9 = .ok (.getfield 40, 3) := by decide +kernel
theorem dX6_pass_12 : decode cX6_pass 12 = .ok (.iload_n 1, 1) := by decide +kernel
theorem dX6_pass_13 : decode cX6_pass 13 = .ok (.iadd, 1) := by decide +kernel
theorem dX6_pass_14 : decode cX6_pass 14 = .ok (.putfield 40, 3) := by decide +kernel
theorem dX6_pass_17 : decode cX6_pass 17 = .ok (.aload_n 0, 1) := by decide +kernel
theorem dX6_pass_18 : decode cX6_pass 18 = .ok (.getfield 40, 3) := by decide +kernel
theorem dX6_pass_21 : decode cX6_pass 21 = .ok (.ireturn, 1) := by decide +kernel
theorem dX6_today_0 : decode cX6_today 0 = .ok (.aload_n 0, 1) := by decide +kernel
theorem dX6_today_1 : decode cX6_today 1 = .ok (.getfield 40, 3) := by decide +kernel
theorem dX6_today_4 : decode cX6_today 4 = .ok (.ireturn, 1) := by decide +kernel
set_option maxRecDepth 20000 in
theorem ggX6_change_X6_policyNumbered : GoodIn wsX6_change wsX6_policyNumbered := goodIn_ca (goodIn_r _ [6, 7, 8, 9, 10, 11, 12, 13, 14, 15, 16, 17, 18, 19, 20, 21, 22, 23, 24, 25, 26, 27, 28, 29, 30, 31, 32, 33, 146, 147, 148, 149, 150, 151, 152, 153, 154] (by decide +kernel) (by decide +kernel)) (goodIn_sub (fun _ h => List.mem_cons_of_mem _ (List.mem_append_left _ (List.mem_append_left _ (List.mem_append_right _ h)))) (by decide +kernel))
set_option maxRecDepth 20000 in
theorem gX6_change_X6_policyNumbered : GoodIn wsX6_change (wsV RX6 84 RX6 yX6_policyNumbered wsX6_policyNumbered) := goodIn_app (goodIn_of _ (by decide +kernel)) ggX6_change_X6_policyNumbered
set_option maxRecDepth 20000 in
theorem ggX6_change_X6_demandField : GoodIn wsX6_change wsX6_demandField := goodIn_ca (goodIn_r _ [36, 7, 8, 37, 38, 5, 39] (by decide +kernel) (by decide +kernel)) (goodIn_sub (fun _ h => List.mem_cons_of_mem _ (List.mem_append_left _ (List.mem_append_left _ (List.mem_append_right _ h)))) (by decide +kernel))
set_option maxRecDepth 20000 in
theorem gX6_change_X6_demandField : GoodIn wsX6_change (va_wsS RX6 70 yX6_demandField wsX6_demandField) := goodIn_app (goodIn_of _ (by decide +kernel)) ggX6_change_X6_demandField
set_option maxRecDepth 20000 in
theorem ggX6_change_X6_demandDay : GoodIn wsX6_change wsX6_demandDay := goodIn_ca (goodIn_r _ [42, 43, 44, 5, 45, 46, 47] (by decide +kernel) (by decide +kernel)) (goodIn_sub (fun _ h => List.mem_cons_of_mem _ (List.mem_append_left _ (List.mem_append_right _ h))) (by decide +kernel))
set_option maxRecDepth 20000 in
theorem gX6_change_X6_demandDay : GoodIn wsX6_change (va_wsS RX6 73 yX6_demandDay wsX6_demandDay) := goodIn_app (goodIn_of _ (by decide +kernel)) ggX6_change_X6_demandDay
set_option maxRecDepth 20000 in
theorem ggX6_change_X6_demandWithin : GoodIn wsX6_change wsX6_demandWithin := goodIn_ca (goodIn_r _ [45, 46, 47] (by decide +kernel) (by decide +kernel)) (goodIn_sub (fun _ h => List.mem_cons_of_mem _ (List.mem_append_left _ (List.mem_append_right _ h))) (by decide +kernel))
set_option maxRecDepth 20000 in
theorem gX6_change_X6_demandWithin : GoodIn wsX6_change (va_wsS RX6 44 yX6_demandWithin wsX6_demandWithin) := goodIn_app (goodIn_of _ (by decide +kernel)) ggX6_change_X6_demandWithin
set_option maxRecDepth 20000 in
theorem ggX6_change_X6_tell : GoodIn wsX6_change wsX6_tell := goodIn_ca (goodIn_r _ [51, 52, 53, 54, 55, 56, 57, 58, 59, 11, 12, 13, 14, 15, 16, 60, 61, 62, 63, 64, 65, 66, 67, 68, 69, 70, 71, 72, 73, 74, 75, 76, 77, 78, 79, 33, 80, 81, 82, 83, 84, 85, 86, 87, 88, 89, 90, 91, 92, 93, 94, 95, 96, 97, 98, 99, 100, 101, 102, 103, 104, 105, 106, 107, 108, 109, 110, 111, 112, 113, 114, 115, 116, 117, 118, 119, 120, 121, 122, 123, 124, 125, 126, 127, 128, 129, 130, 131, 132, 133, 134, 135, 136, 18, 19, 20, 21, 22, 23, 24, 25, 26, 27, 28, 29, 30, 31, 32, 137, 138, 139, 140, 141, 142, 143, 144, 145, 146, 147, 148, 149, 150, 151, 155, 156, 157, 158, 159, 160, 161, 162, 152, 153, 154, 163, 164, 165] (by decide +kernel) (by decide +kernel)) (goodIn_sub (fun _ h => List.mem_cons_of_mem _ (List.mem_append_right _ h)) (by decide +kernel))
set_option maxRecDepth 20000 in
theorem gX6_change_X6_tell : GoodIn wsX6_change (wsV RX6 94 RX6 yX6_tell wsX6_tell) := goodIn_app (goodIn_of _ (by decide +kernel)) ggX6_change_X6_tell
theorem dX6_change_0 : decode cX6_change 0 = .ok (.aload_n 0, 1) := by decide +kernel
theorem dX6_change_1 : decode cX6_change 1 = .ok (.iload_n 1, 1) := by decide +kernel
theorem dX6_change_2 : decode cX6_change 2 = .ok (.invokevirtual 84, 3) := by decide +kernel
theorem dX6_change_5 : decode cX6_change 5 = .ok (.astore 5, 2) := by decide +kernel
theorem dX6_change_7 : decode cX6_change 7 = .ok (.iload_n 2, 1) := by decide +kernel
theorem dX6_change_8 : decode cX6_change 8 = .ok (.invokestatic 70, 3) := by decide +kernel
theorem dX6_change_11 : decode cX6_change 11 = .ok (.iload_n 3, 1) := by decide +kernel
theorem dX6_change_12 : decode cX6_change 12 = .ok (.invokestatic 73, 3) := by decide +kernel
theorem dX6_change_15 : decode cX6_change 15 = .ok (.iload 4, 2) := by decide +kernel
theorem dX6_change_17 : decode cX6_change 17 = .ok (.iconst 0, 1) := by decide +kernel
theorem dX6_change_18 : decode cX6_change 18 = .ok (.bipush 20, 2) := by decide +kernel
theorem dX6_change_20 : decode cX6_change 20 = .ok (.invokestatic 44, 3) := by decide +kernel
theorem dX6_change_23 : decode cX6_change 23 = .ok (.aload_n 0, 1) := by decide +kernel
theorem dX6_change_24 : decode cX6_change 24 = .ok (.aload 5, 2) := by decide +kernel
theorem dX6_change_26 : decode cX6_change 26 = .ok (.getstatic 88, 3) := by decide +kernel
theorem dX6_change_29 : decode cX6_change 29 = .ok (.iload_n 2, 1) := by decide +kernel
theorem dX6_change_30 : decode cX6_change 30 = .ok (.iload_n 3, 1) := by decide +kernel
theorem dX6_change_31 : decode cX6_change 31 = .ok (.iload 4, 2) := by decide +kernel
theorem dX6_change_33 : decode cX6_change 33 = .ok (.invokevirtual 94, 3) := by decide +kernel
theorem dX6_change_36 : decode cX6_change 36 = .ok (.ireturn, 1) := by decide +kernel
set_option maxRecDepth 20000 in
theorem ggX6_add_X6_policyNumbered : GoodIn wsX6_add wsX6_policyNumbered := goodIn_ca (goodIn_r _ [6, 7, 8, 9, 10, 11, 12, 13, 14, 15, 16, 17, 18, 19, 20, 21, 22, 23, 24, 25, 26, 27, 28, 29, 30, 31, 32, 33, 146, 147, 148, 149, 150, 151, 152, 153, 154] (by decide +kernel) (by decide +kernel)) (goodIn_sub (fun _ h => List.mem_cons_of_mem _ (List.mem_append_left _ (List.mem_append_left _ (List.mem_append_right _ h)))) (by decide +kernel))
set_option maxRecDepth 20000 in
theorem gX6_add_X6_policyNumbered : GoodIn wsX6_add (wsV RX6 84 RX6 yX6_policyNumbered wsX6_policyNumbered) := goodIn_app (goodIn_of _ (by decide +kernel)) ggX6_add_X6_policyNumbered
set_option maxRecDepth 20000 in
theorem ggX6_add_X6_demandField : GoodIn wsX6_add wsX6_demandField := goodIn_ca (goodIn_r _ [36, 7, 8, 37, 38, 5, 39] (by decide +kernel) (by decide +kernel)) (goodIn_sub (fun _ h => List.mem_cons_of_mem _ (List.mem_append_left _ (List.mem_append_left _ (List.mem_append_right _ h)))) (by decide +kernel))
set_option maxRecDepth 20000 in
theorem gX6_add_X6_demandField : GoodIn wsX6_add (va_wsS RX6 70 yX6_demandField wsX6_demandField) := goodIn_app (goodIn_of _ (by decide +kernel)) ggX6_add_X6_demandField
set_option maxRecDepth 20000 in
theorem ggX6_add_X6_demandDay : GoodIn wsX6_add wsX6_demandDay := goodIn_ca (goodIn_r _ [42, 43, 44, 5, 45, 46, 47] (by decide +kernel) (by decide +kernel)) (goodIn_sub (fun _ h => List.mem_cons_of_mem _ (List.mem_append_left _ (List.mem_append_right _ h))) (by decide +kernel))
set_option maxRecDepth 20000 in
theorem gX6_add_X6_demandDay : GoodIn wsX6_add (va_wsS RX6 73 yX6_demandDay wsX6_demandDay) := goodIn_app (goodIn_of _ (by decide +kernel)) ggX6_add_X6_demandDay
set_option maxRecDepth 20000 in
theorem ggX6_add_X6_demandWithin : GoodIn wsX6_add wsX6_demandWithin := goodIn_ca (goodIn_r _ [45, 46, 47] (by decide +kernel) (by decide +kernel)) (goodIn_sub (fun _ h => List.mem_cons_of_mem _ (List.mem_append_left _ (List.mem_append_right _ h))) (by decide +kernel))
set_option maxRecDepth 20000 in
theorem gX6_add_X6_demandWithin : GoodIn wsX6_add (va_wsS RX6 44 yX6_demandWithin wsX6_demandWithin) := goodIn_app (goodIn_of _ (by decide +kernel)) ggX6_add_X6_demandWithin
set_option maxRecDepth 20000 in
theorem ggX6_add_X6_tell : GoodIn wsX6_add wsX6_tell := goodIn_ca (goodIn_r _ [51, 52, 53, 54, 55, 56, 57, 58, 59, 11, 12, 13, 14, 15, 16, 60, 61, 62, 63, 64, 65, 66, 67, 68, 69, 70, 71, 72, 73, 74, 75, 76, 77, 78, 79, 33, 80, 81, 82, 83, 84, 85, 86, 87, 88, 89, 90, 91, 92, 93, 94, 95, 96, 97, 98, 99, 100, 101, 102, 103, 104, 105, 106, 107, 108, 109, 110, 111, 112, 113, 114, 115, 116, 117, 118, 119, 120, 121, 122, 123, 124, 125, 126, 127, 128, 129, 130, 131, 132, 133, 134, 135, 136, 18, 19, 20, 21, 22, 23, 24, 25, 26, 27, 28, 29, 30, 31, 32, 137, 138, 139, 140, 141, 142, 143, 144, 145, 146, 147, 148, 149, 150, 151, 155, 156, 157, 158, 159, 160, 161, 162, 152, 153, 154, 163, 164, 165] (by decide +kernel) (by decide +kernel)) (goodIn_sub (fun _ h => List.mem_cons_of_mem _ (List.mem_append_right _ h)) (by decide +kernel))
set_option maxRecDepth 20000 in
theorem gX6_add_X6_tell : GoodIn wsX6_add (wsV RX6 94 RX6 yX6_tell wsX6_tell) := goodIn_app (goodIn_of _ (by decide +kernel)) ggX6_add_X6_tell
theorem dX6_add_0 : decode cX6_add 0 = .ok (.aload_n 0, 1) := by decide +kernel
theorem dX6_add_1 : decode cX6_add 1 = .ok (.iload_n 1, 1) := by decide +kernel
theorem dX6_add_2 : decode cX6_add 2 = .ok (.invokevirtual 84, 3) := by decide +kernel
theorem dX6_add_5 : decode cX6_add 5 = .ok (.astore 5, 2) := by decide +kernel
theorem dX6_add_7 : decode cX6_add 7 = .ok (.iload_n 2, 1) := by decide +kernel
theorem dX6_add_8 : decode cX6_add 8 = .ok (.invokestatic 70, 3) := by decide +kernel
theorem dX6_add_11 : decode cX6_add 11 = .ok (.iload_n 3, 1) := by decide +kernel
theorem dX6_add_12 : decode cX6_add 12 = .ok (.invokestatic 73, 3) := by decide +kernel
theorem dX6_add_15 : decode cX6_add 15 = .ok (.iload 4, 2) := by decide +kernel
theorem dX6_add_17 : decode cX6_add 17 = .ok (.bipush (-20), 2) := by decide +kernel
theorem dX6_add_19 : decode cX6_add 19 = .ok (.bipush 20, 2) := by decide +kernel
theorem dX6_add_21 : decode cX6_add 21 = .ok (.invokestatic 44, 3) := by decide +kernel
theorem dX6_add_24 : decode cX6_add 24 = .ok (.aload_n 0, 1) := by decide +kernel
theorem dX6_add_25 : decode cX6_add 25 = .ok (.aload 5, 2) := by decide +kernel
theorem dX6_add_27 : decode cX6_add 27 = .ok (.getstatic 97, 3) := by decide +kernel
theorem dX6_add_30 : decode cX6_add 30 = .ok (.iload_n 2, 1) := by decide +kernel
theorem dX6_add_31 : decode cX6_add 31 = .ok (.iload_n 3, 1) := by decide +kernel
theorem dX6_add_32 : decode cX6_add 32 = .ok (.iload 4, 2) := by decide +kernel
theorem dX6_add_34 : decode cX6_add 34 = .ok (.invokevirtual 94, 3) := by decide +kernel
theorem dX6_add_37 : decode cX6_add 37 = .ok (.ireturn, 1) := by decide +kernel
set_option maxRecDepth 20000 in
theorem ggX6_cancel_X6_policyNumbered : GoodIn wsX6_cancel wsX6_policyNumbered := goodIn_ca (goodIn_r _ [6, 7, 8, 9, 10, 11, 12, 13, 14, 15, 16, 17, 18, 19, 20, 21, 22, 23, 24, 25, 26, 27, 28, 29, 30, 31, 32, 33, 140, 141, 142, 143, 144, 145, 146, 147, 148] (by decide +kernel) (by decide +kernel)) (goodIn_sub (fun _ h => List.mem_cons_of_mem _ (List.mem_append_left _ (List.mem_append_left _ (List.mem_append_right _ h)))) (by decide +kernel))
set_option maxRecDepth 20000 in
theorem gX6_cancel_X6_policyNumbered : GoodIn wsX6_cancel (wsV RX6 84 RX6 yX6_policyNumbered wsX6_policyNumbered) := goodIn_app (goodIn_of _ (by decide +kernel)) ggX6_cancel_X6_policyNumbered
set_option maxRecDepth 20000 in
theorem ggX6_cancel_X6_demandDay : GoodIn wsX6_cancel wsX6_demandDay := goodIn_ca (goodIn_r _ [36, 37, 38, 5, 39, 40, 41] (by decide +kernel) (by decide +kernel)) (goodIn_sub (fun _ h => List.mem_cons_of_mem _ (List.mem_append_left _ (List.mem_append_right _ h))) (by decide +kernel))
set_option maxRecDepth 20000 in
theorem gX6_cancel_X6_demandDay : GoodIn wsX6_cancel (va_wsS RX6 73 yX6_demandDay wsX6_demandDay) := goodIn_app (goodIn_of _ (by decide +kernel)) ggX6_cancel_X6_demandDay
set_option maxRecDepth 20000 in
theorem ggX6_cancel_X6_tell : GoodIn wsX6_cancel wsX6_tell := goodIn_ca (goodIn_r _ [45, 46, 47, 48, 49, 50, 51, 52, 53, 11, 12, 13, 14, 15, 16, 54, 55, 56, 57, 58, 59, 60, 61, 62, 63, 64, 65, 66, 67, 68, 69, 70, 71, 72, 73, 33, 74, 75, 76, 77, 78, 79, 80, 81, 82, 83, 84, 85, 86, 87, 88, 89, 90, 91, 92, 93, 94, 95, 96, 97, 98, 99, 100, 101, 102, 103, 104, 105, 106, 107, 108, 109, 110, 111, 112, 113, 114, 115, 116, 117, 118, 119, 120, 121, 122, 123, 124, 125, 126, 127, 128, 129, 130, 18, 19, 20, 21, 22, 23, 24, 25, 26, 27, 28, 29, 30, 31, 32, 131, 132, 133, 134, 135, 136, 137, 138, 139, 140, 141, 142, 143, 144, 145, 149, 150, 151, 152, 153, 154, 155, 156, 146, 147, 148, 157, 158, 159] (by decide +kernel) (by decide +kernel)) (goodIn_sub (fun _ h => List.mem_cons_of_mem _ (List.mem_append_right _ h)) (by decide +kernel))
set_option maxRecDepth 20000 in
theorem gX6_cancel_X6_tell : GoodIn wsX6_cancel (wsV RX6 94 RX6 yX6_tell wsX6_tell) := goodIn_app (goodIn_of _ (by decide +kernel)) ggX6_cancel_X6_tell
theorem dX6_cancel_0 : decode cX6_cancel 0 = .ok (.aload_n 0, 1) := by decide +kernel
theorem dX6_cancel_1 : decode cX6_cancel 1 = .ok (.iload_n 1, 1) := by decide +kernel
theorem dX6_cancel_2 : decode cX6_cancel 2 = .ok (.invokevirtual 84, 3) := by decide +kernel
theorem dX6_cancel_5 : decode cX6_cancel 5 = .ok (.astore_n 3, 1) := by decide +kernel
theorem dX6_cancel_6 : decode cX6_cancel 6 = .ok (.iload_n 2, 1) := by decide +kernel
theorem dX6_cancel_7 : decode cX6_cancel 7 = .ok (.invokestatic 73, 3) := by decide +kernel
theorem dX6_cancel_10 : decode cX6_cancel 10 = .ok (.aload_n 0, 1) := by decide +kernel
theorem dX6_cancel_11 : decode cX6_cancel 11 = .ok (.aload_n 3, 1) := by decide +kernel
theorem dX6_cancel_12 : decode cX6_cancel 12 = .ok (.getstatic 100, 3) := by decide +kernel
theorem dX6_cancel_15 : decode cX6_cancel 15 = .ok (.iconst (-1), 1) := by decide +kernel
theorem dX6_cancel_16 : decode cX6_cancel 16 = .ok (.iload_n 2, 1) := by decide +kernel
theorem dX6_cancel_17 : decode cX6_cancel 17 = .ok (.iconst 0, 1) := by decide +kernel
theorem dX6_cancel_18 : decode cX6_cancel 18 = .ok (.invokevirtual 94, 3) := by decide +kernel
theorem dX6_cancel_21 : decode cX6_cancel 21 = .ok (.ireturn, 1) := by decide +kernel
set_option maxRecDepth 20000 in
theorem ggX6_reinstate_X6_policyNumbered : GoodIn wsX6_reinstate wsX6_policyNumbered := goodIn_ca (goodIn_r _ [6, 7, 8, 9, 10, 11, 12, 13, 14, 15, 16, 17, 18, 19, 20, 21, 22, 23, 24, 25, 26, 27, 28, 29, 30, 31, 32, 33, 140, 141, 142, 143, 144, 145, 146, 147, 148] (by decide +kernel) (by decide +kernel)) (goodIn_sub (fun _ h => List.mem_cons_of_mem _ (List.mem_append_left _ (List.mem_append_left _ (List.mem_append_right _ h)))) (by decide +kernel))
set_option maxRecDepth 20000 in
theorem gX6_reinstate_X6_policyNumbered : GoodIn wsX6_reinstate (wsV RX6 84 RX6 yX6_policyNumbered wsX6_policyNumbered) := goodIn_app (goodIn_of _ (by decide +kernel)) ggX6_reinstate_X6_policyNumbered
set_option maxRecDepth 20000 in
theorem ggX6_reinstate_X6_demandDay : GoodIn wsX6_reinstate wsX6_demandDay := goodIn_ca (goodIn_r _ [36, 37, 38, 5, 39, 40, 41] (by decide +kernel) (by decide +kernel)) (goodIn_sub (fun _ h => List.mem_cons_of_mem _ (List.mem_append_left _ (List.mem_append_right _ h))) (by decide +kernel))
set_option maxRecDepth 20000 in
theorem gX6_reinstate_X6_demandDay : GoodIn wsX6_reinstate (va_wsS RX6 73 yX6_demandDay wsX6_demandDay) := goodIn_app (goodIn_of _ (by decide +kernel)) ggX6_reinstate_X6_demandDay
set_option maxRecDepth 20000 in
theorem ggX6_reinstate_X6_tell : GoodIn wsX6_reinstate wsX6_tell := goodIn_ca (goodIn_r _ [45, 46, 47, 48, 49, 50, 51, 52, 53, 11, 12, 13, 14, 15, 16, 54, 55, 56, 57, 58, 59, 60, 61, 62, 63, 64, 65, 66, 67, 68, 69, 70, 71, 72, 73, 33, 74, 75, 76, 77, 78, 79, 80, 81, 82, 83, 84, 85, 86, 87, 88, 89, 90, 91, 92, 93, 94, 95, 96, 97, 98, 99, 100, 101, 102, 103, 104, 105, 106, 107, 108, 109, 110, 111, 112, 113, 114, 115, 116, 117, 118, 119, 120, 121, 122, 123, 124, 125, 126, 127, 128, 129, 130, 18, 19, 20, 21, 22, 23, 24, 25, 26, 27, 28, 29, 30, 31, 32, 131, 132, 133, 134, 135, 136, 137, 138, 139, 140, 141, 142, 143, 144, 145, 149, 150, 151, 152, 153, 154, 155, 156, 146, 147, 148, 157, 158, 159] (by decide +kernel) (by decide +kernel)) (goodIn_sub (fun _ h => List.mem_cons_of_mem _ (List.mem_append_right _ h)) (by decide +kernel))
set_option maxRecDepth 20000 in
theorem gX6_reinstate_X6_tell : GoodIn wsX6_reinstate (wsV RX6 94 RX6 yX6_tell wsX6_tell) := goodIn_app (goodIn_of _ (by decide +kernel)) ggX6_reinstate_X6_tell
theorem dX6_reinstate_0 : decode cX6_reinstate 0 = .ok (.aload_n 0, 1) := by decide +kernel
theorem dX6_reinstate_1 : decode cX6_reinstate 1 = .ok (.iload_n 1, 1) := by decide +kernel
theorem dX6_reinstate_2 : decode cX6_reinstate 2 = .ok (.invokevirtual 84, 3) := by decide +kernel
theorem dX6_reinstate_5 : decode cX6_reinstate 5 = .ok (.astore_n 3, 1) := by decide +kernel
theorem dX6_reinstate_6 : decode cX6_reinstate 6 = .ok (.iload_n 2, 1) := by decide +kernel
theorem dX6_reinstate_7 : decode cX6_reinstate 7 = .ok (.invokestatic 73, 3) := by decide +kernel
theorem dX6_reinstate_10 : decode cX6_reinstate 10 = .ok (.aload_n 0, 1) := by decide +kernel
theorem dX6_reinstate_11 : decode cX6_reinstate 11 = .ok (.aload_n 3, 1) := by decide +kernel
theorem dX6_reinstate_12 : decode cX6_reinstate 12 = .ok (.getstatic 103, 3) := by decide +kernel
theorem dX6_reinstate_15 : decode cX6_reinstate 15 = .ok (.iconst (-1), 1) := by decide +kernel
theorem dX6_reinstate_16 : decode cX6_reinstate 16 = .ok (.iload_n 2, 1) := by decide +kernel
theorem dX6_reinstate_17 : decode cX6_reinstate 17 = .ok (.iconst 0, 1) := by decide +kernel
theorem dX6_reinstate_18 : decode cX6_reinstate 18 = .ok (.invokevirtual 94, 3) := by decide +kernel
theorem dX6_reinstate_21 : decode cX6_reinstate 21 = .ok (.ireturn, 1) := by decide +kernel
set_option maxRecDepth 20000 in
theorem ggX6_takeBack_X6_changeNumbered : GoodIn wsX6_takeBack wsX6_changeNumbered := goodIn_ca (goodIn_r _ [10, 11, 12, 13, 14, 15, 16, 17, 18, 19, 20, 21, 22, 23, 24, 25, 26, 27, 28, 29, 30, 31, 32, 33, 34, 35, 36, 37, 46, 47, 48, 49, 50, 51, 52, 53, 54] (by decide +kernel) (by decide +kernel)) (goodIn_sub (fun _ h => List.mem_cons_of_mem _ (List.mem_append_right _ h)) (by decide +kernel))
set_option maxRecDepth 20000 in
theorem gX6_takeBack_X6_changeNumbered : GoodIn wsX6_takeBack (wsV RX6 106 RX6 yX6_changeNumbered wsX6_changeNumbered) := goodIn_app (goodIn_of _ (by decide +kernel)) ggX6_takeBack_X6_changeNumbered
theorem dX6_takeBack_0 : decode cX6_takeBack 0 = .ok (.aload_n 0, 1) := by decide +kernel
theorem dX6_takeBack_1 : decode cX6_takeBack 1 = .ok (.iload_n 1, 1) := by decide +kernel
theorem dX6_takeBack_2 : decode cX6_takeBack 2 = .ok (.invokevirtual 106, 3) := by decide +kernel
theorem dX6_takeBack_5 : decode cX6_takeBack 5 = .ok (.astore_n 2, 1) := by decide +kernel
theorem dX6_takeBack_6 : decode cX6_takeBack 6 = .ok (.aload_n 2, 1) := by decide +kernel
theorem dX6_takeBack_7 : decode cX6_takeBack 7 = .ok (.getfield 110, 3) := by decide +kernel
theorem dX6_takeBack_10 : decode cX6_takeBack 10 = .ok (.iconst (-1), 1) := by decide +kernel
theorem dX6_takeBack_11 : decode cX6_takeBack 11 = .ok (.if_icmp .eq 13, 3) := by decide +kernel
theorem dX6_takeBack_14 : decode cX6_takeBack 14 = .ok (.new 54, 3) := by decide +kernel
theorem dX6_takeBack_17 : decode cX6_takeBack 17 = .ok (.dup, 1) := by decide +kernel
theorem dX6_takeBack_18 : decode cX6_takeBack 18 = .ok (.ldc 115, 2) := by decide +kernel
theorem dX6_takeBack_20 : decode cX6_takeBack 20 = .ok (.invokespecial 58, 3) := by decide +kernel
theorem dX6_takeBack_23 : decode cX6_takeBack 23 = .ok (.athrow, 1) := by decide +kernel
theorem dX6_takeBack_24 : decode cX6_takeBack 24 = .ok (.aload_n 2, 1) := by decide +kernel
theorem dX6_takeBack_25 : decode cX6_takeBack 25 = .ok (.aload_n 0, 1) := by decide +kernel
theorem dX6_takeBack_26 : decode cX6_takeBack 26 = .ok (.getfield 40, 3) := by decide +kernel
theorem dX6_takeBack_29 : decode cX6_takeBack 29 = .ok (.putfield 110, 3) := by decide +kernel
theorem dX6_takeBack_32 : decode cX6_takeBack 32 = .ok (.aload_n 2, 1) := by decide +kernel
theorem dX6_takeBack_33 : decode cX6_takeBack 33 = .ok (.getfield 117, 3) := by decide +kernel
theorem dX6_takeBack_36 : decode cX6_takeBack 36 = .ok (.ireturn, 1) := by decide +kernel
set_option maxRecDepth 20000 in
theorem ggX6_changes_Jx4a65c_size_8abf5 : GoodIn wsX6_changes wsJx4a65c_size_8abf5 := goodIn_r _ [6, 7, 14, 15, 16] (by decide +kernel) (by decide +kernel)
set_option maxRecDepth 20000 in
theorem gX6_changes_Jx4a65c_size_8abf5_f48Jx4a65c : GoodIn wsX6_changes (va_wsF RX6 48 RJx4a65c ⟨"java/util/List", "size", "()I"⟩ yJx4a65c_size_8abf5 wsJx4a65c_size_8abf5) := goodIn_app (goodIn_of _ (by decide +kernel)) ggX6_changes_Jx4a65c_size_8abf5
theorem dX6_changes_0 : decode cX6_changes 0 = .ok (.aload_n 0, 1) := by decide +kernel
theorem dX6_changes_1 : decode cX6_changes 1 = .ok (.getfield 16, 3) := by decide +kernel
theorem dX6_changes_4 : decode cX6_changes 4 = .ok (.invokeinterface 48 1, 5) := by decide +kernel
theorem dX6_changes_9 : decode cX6_changes 9 = .ok (.ireturn, 1) := by decide +kernel
set_option maxRecDepth 20000 in
theorem ggX6_laidAnew_X6_changeNumbered : GoodIn wsX6_laidAnew wsX6_changeNumbered := goodIn_ca (goodIn_r _ [11, 12, 13, 14, 3, 15, 16, 17, 18, 19, 20, 21, 22, 23, 24, 25, 26, 27, 28, 29, 30, 31, 32, 33, 34, 35, 36, 37, 56, 57, 58, 59, 60, 61, 62, 63, 64] (by decide +kernel) (by decide +kernel)) (goodIn_sub (fun _ h => List.mem_cons_of_mem _ (List.mem_append_right _ h)) (by decide +kernel))
set_option maxRecDepth 20000 in
theorem gX6_laidAnew_X6_changeNumbered : GoodIn wsX6_laidAnew (wsV RX6 106 RX6 yX6_changeNumbered wsX6_changeNumbered) := goodIn_app (goodIn_of _ (by decide +kernel)) ggX6_laidAnew_X6_changeNumbered
set_option maxRecDepth 20000 in
theorem ggX6_laidAnew_Jx4a65c_size_8abf5 : GoodIn wsX6_laidAnew wsJx4a65c_size_8abf5 := goodIn_r _ [19, 20, 62, 63, 64] (by decide +kernel) (by decide +kernel)
set_option maxRecDepth 20000 in
theorem gX6_laidAnew_Jx4a65c_size_8abf5_f48Jx4a65c : GoodIn wsX6_laidAnew (va_wsF RX6 48 RJx4a65c ⟨"java/util/List", "size", "()I"⟩ yJx4a65c_size_8abf5 wsJx4a65c_size_8abf5) := goodIn_app (goodIn_of _ (by decide +kernel)) ggX6_laidAnew_Jx4a65c_size_8abf5
set_option maxRecDepth 20000 in
theorem ggX6_laidAnew_Jx4a65c_get_915e3 : GoodIn wsX6_laidAnew wsJx4a65c_get_915e3 := goodIn_r _ [24, 20, 25, 26, 27, 28, 29, 30, 31, 32, 33, 34, 35, 18, 36, 37, 62, 63, 64] (by decide +kernel) (by decide +kernel)
set_option maxRecDepth 20000 in
theorem gX6_laidAnew_Jx4a65c_get_915e3_f127Jx4a65c : GoodIn wsX6_laidAnew (va_wsF RX6 127 RJx4a65c ⟨"java/util/List", "get", "(I)Ljava/lang/Object;"⟩ yJx4a65c_get_915e3 wsJx4a65c_get_915e3) := goodIn_app (goodIn_of _ (by decide +kernel)) ggX6_laidAnew_Jx4a65c_get_915e3
set_option maxRecDepth 20000 in
theorem ggX6_laidAnew_X0_isKnownOn : GoodIn wsX6_laidAnew wsX0_isKnownOn := goodIn_r _ [42, 43, 44, 45, 46, 47, 48, 49, 50, 51, 52] (by decide +kernel) (by decide +kernel)
set_option maxRecDepth 20000 in
theorem gX6_laidAnew_X0_isKnownOn : GoodIn wsX6_laidAnew (wsV RX6 137 RX0 yX0_isKnownOn wsX0_isKnownOn) := goodIn_app (goodIn_of _ (by decide +kernel)) ggX6_laidAnew_X0_isKnownOn
theorem dX6_laidAnew_0 : decode cX6_laidAnew 0 = .ok (.aload_n 0, 1) := by decide +kernel
theorem dX6_laidAnew_1 : decode cX6_laidAnew 1 = .ok (.iload_n 1, 1) := by decide +kernel
theorem dX6_laidAnew_2 : decode cX6_laidAnew 2 = .ok (.invokevirtual 106, 3) := by decide +kernel
theorem dX6_laidAnew_5 : decode cX6_laidAnew 5 = .ok (.astore_n 2, 1) := by decide +kernel
theorem dX6_laidAnew_6 : decode cX6_laidAnew 6 = .ok (.aload_n 2, 1) := by decide +kernel
theorem dX6_laidAnew_7 : decode cX6_laidAnew 7 = .ok (.getfield 120, 3) := by decide +kernel
theorem dX6_laidAnew_10 : decode cX6_laidAnew 10 = .ok (.getfield 124, 3) := by decide +kernel
theorem dX6_laidAnew_13 : decode cX6_laidAnew 13 = .ok (.astore_n 3, 1) := by decide +kernel
theorem dX6_laidAnew_14 : decode cX6_laidAnew 14 = .ok (.iconst 0, 1) := by decide +kernel
theorem dX6_laidAnew_15 : decode cX6_laidAnew 15 = .ok (.istore 4, 2) := by decide +kernel
theorem dX6_laidAnew_17 : decode cX6_laidAnew 17 = .ok (.iconst 0, 1) := by decide +kernel
theorem dX6_laidAnew_18 : decode cX6_laidAnew 18 = .ok (.istore 5, 2) := by decide +kernel
theorem dX6_laidAnew_20 : decode cX6_laidAnew 20 = .ok (.iload 5, 2) := by decide +kernel
theorem dX6_laidAnew_22 : decode cX6_laidAnew 22 = .ok (.aload_n 3, 1) := by decide +kernel
theorem dX6_laidAnew_23 : decode cX6_laidAnew 23 = .ok (.invokeinterface 48 1, 5) := by decide +kernel
theorem dX6_laidAnew_28 : decode cX6_laidAnew 28 = .ok (.if_icmp .ge 61, 3) := by decide +kernel
theorem dX6_laidAnew_31 : decode cX6_laidAnew 31 = .ok (.aload_n 3, 1) := by decide +kernel
theorem dX6_laidAnew_32 : decode cX6_laidAnew 32 = .ok (.iload 5, 2) := by decide +kernel
theorem dX6_laidAnew_34 : decode cX6_laidAnew 34 = .ok (.invokeinterface 127 2, 5) := by decide +kernel
theorem dX6_laidAnew_39 : decode cX6_laidAnew 39 = .ok (.checkcast 111, 3) := by decide +kernel
theorem dX6_laidAnew_42 : decode cX6_laidAnew 42 = .ok (.astore 6, 2) := by decide +kernel
theorem dX6_laidAnew_44 : decode cX6_laidAnew 44 = .ok (.aload 6, 2) := by decide +kernel
theorem dX6_laidAnew_46 : decode cX6_laidAnew 46 = .ok (.getfield 131, 3) := by decide +kernel
theorem dX6_laidAnew_49 : decode cX6_laidAnew 49 = .ok (.aload_n 2, 1) := by decide +kernel
theorem dX6_laidAnew_50 : decode cX6_laidAnew 50 = .ok (.getfield 131, 3) := by decide +kernel
theorem dX6_laidAnew_53 : decode cX6_laidAnew 53 = .ok (.if_icmp .ge 30, 3) := by decide +kernel
theorem dX6_laidAnew_56 : decode cX6_laidAnew 56 = .ok (.aload 6, 2) := by decide +kernel
theorem dX6_laidAnew_58 : decode cX6_laidAnew 58 = .ok (.getfield 134, 3) := by decide +kernel
theorem dX6_laidAnew_61 : decode cX6_laidAnew 61 = .ok (.aload_n 2, 1) := by decide +kernel
theorem dX6_laidAnew_62 : decode cX6_laidAnew 62 = .ok (.getfield 134, 3) := by decide +kernel
theorem dX6_laidAnew_65 : decode cX6_laidAnew 65 = .ok (.if_icmp .le 18, 3) := by decide +kernel
theorem dX6_laidAnew_68 : decode cX6_laidAnew 68 = .ok (.aload 6, 2) := by decide +kernel
theorem dX6_laidAnew_70 : decode cX6_laidAnew 70 = .ok (.aload_n 0, 1) := by decide +kernel
theorem dX6_laidAnew_71 : decode cX6_laidAnew 71 = .ok (.getfield 40, 3) := by decide +kernel
theorem dX6_laidAnew_74 : decode cX6_laidAnew 74 = .ok (.invokevirtual 137, 3) := by decide +kernel
theorem dX6_laidAnew_77 : decode cX6_laidAnew 77 = .ok (.ifCond .eq 6, 3) := by decide +kernel
theorem dX6_laidAnew_80 : decode cX6_laidAnew 80 = .ok (.iinc 4 1, 3) := by decide +kernel
theorem dX6_laidAnew_83 : decode cX6_laidAnew 83 = .ok (.iinc 5 1, 3) := by decide +kernel
theorem dX6_laidAnew_86 : decode cX6_laidAnew 86 = .ok (.goto (-66), 3) := by decide +kernel
theorem dX6_laidAnew_89 : decode cX6_laidAnew 89 = .ok (.iload 4, 2) := by decide +kernel
theorem dX6_laidAnew_91 : decode cX6_laidAnew 91 = .ok (.ireturn, 1) := by decide +kernel
set_option maxRecDepth 20000 in
theorem ggX6_value_X6_policyNumbered : GoodIn wsX6_value wsX6_policyNumbered := goodIn_ca (goodIn_r _ [6, 7, 8, 9, 10, 11, 12, 13, 14, 15, 16, 17, 18, 19, 20, 21, 22, 23, 24, 25, 26, 27, 28, 29, 30, 31, 32, 33, 109, 110, 111, 112, 113, 114, 115, 116, 117] (by decide +kernel) (by decide +kernel)) (goodIn_sub (fun _ h => List.mem_cons_of_mem _ (List.mem_append_left _ (List.mem_append_right _ h))) (by decide +kernel))
set_option maxRecDepth 20000 in
theorem gX6_value_X6_policyNumbered : GoodIn wsX6_value (wsV RX6 84 RX6 yX6_policyNumbered wsX6_policyNumbered) := goodIn_app (goodIn_of _ (by decide +kernel)) ggX6_value_X6_policyNumbered
set_option maxRecDepth 20000 in
theorem ggX6_value_X6_demandField : GoodIn wsX6_value wsX6_demandField := goodIn_ca (goodIn_r _ [36, 7, 8, 37, 38, 5, 39] (by decide +kernel) (by decide +kernel)) (goodIn_sub (fun _ h => List.mem_cons_of_mem _ (List.mem_append_left _ (List.mem_append_right _ h))) (by decide +kernel))
set_option maxRecDepth 20000 in
theorem gX6_value_X6_demandField : GoodIn wsX6_value (va_wsS RX6 70 yX6_demandField wsX6_demandField) := goodIn_app (goodIn_of _ (by decide +kernel)) ggX6_value_X6_demandField
set_option maxRecDepth 20000 in
theorem ggX6_value_X6_demandDay : GoodIn wsX6_value wsX6_demandDay := goodIn_ca (goodIn_r _ [42, 43, 44, 5, 45, 46, 47] (by decide +kernel) (by decide +kernel)) (goodIn_sub (fun _ h => List.mem_cons_of_mem _ (List.mem_append_right _ h)) (by decide +kernel))
set_option maxRecDepth 20000 in
theorem gX6_value_X6_demandDay : GoodIn wsX6_value (va_wsS RX6 73 yX6_demandDay wsX6_demandDay) := goodIn_app (goodIn_of _ (by decide +kernel)) ggX6_value_X6_demandDay
set_option maxRecDepth 20000 in
theorem ggX6_value_X6_demandKnown : GoodIn wsX6_value wsX6_demandKnown := goodIn_ca (goodIn_r _ [51, 52, 43, 44, 5, 45, 46, 47, 109, 110, 111, 112, 113, 114] (by decide +kernel) (by decide +kernel)) (goodIn_sub (fun _ h => List.mem_cons_of_mem _ (List.mem_append_right _ h)) (by decide +kernel))
set_option maxRecDepth 20000 in
theorem gX6_value_X6_demandKnown : GoodIn wsX6_value (wsV RX6 141 RX6 yX6_demandKnown wsX6_demandKnown) := goodIn_app (goodIn_of _ (by decide +kernel)) ggX6_value_X6_demandKnown
set_option maxRecDepth 20000 in
theorem ggX6_value_X6_layVersion : GoodIn wsX6_value wsX6_layVersion := goodIn_r _ [56, 1, 57, 58, 59, 60, 61, 62, 63, 64, 65, 66, 67, 68, 69, 70, 5, 71, 72, 73, 74, 75, 76, 77, 78, 11, 12, 13, 14, 15, 16, 17, 18, 19, 20, 21, 22, 23, 24, 25, 26, 27, 28, 29, 30, 31, 32, 33, 79, 80, 81, 82, 83, 84, 85, 86, 87, 88, 89, 90, 91, 92, 93, 94, 95, 96, 97, 98, 99, 100, 101, 102, 103, 38, 39, 104, 105, 106, 107, 109, 110, 111, 112, 113, 114, 118, 119, 120, 121, 122, 123, 124, 125, 126, 127, 128, 129, 130, 115, 116, 117] (by decide +kernel) (by decide +kernel)
set_option maxRecDepth 20000 in
theorem gX6_value_X6_layVersion : GoodIn wsX6_value (wsV RX6 144 RX6 yX6_layVersion wsX6_layVersion) := goodIn_app (goodIn_of _ (by decide +kernel)) ggX6_value_X6_layVersion
set_option maxRecDepth 20000 in
theorem ggX6_value_X4_valueOf : GoodIn wsX6_value wsX4_valueOf := goodIn_r _ [107, 62, 38, 5, 39, 118, 119] (by decide +kernel) (by decide +kernel)
set_option maxRecDepth 20000 in
theorem gX6_value_X4_valueOf : GoodIn wsX6_value (wsV RX6 148 RX4 yX4_valueOf wsX4_valueOf) := goodIn_app (goodIn_of _ (by decide +kernel)) ggX6_value_X4_valueOf
theorem dX6_value_0 : decode cX6_value 0 = .ok (.aload_n 0, 1) := by decide +kernel
theorem dX6_value_1 : decode cX6_value 1 = .ok (.iload_n 1, 1) := by decide +kernel
theorem dX6_value_2 : decode cX6_value 2 = .ok (.invokevirtual 84, 3) := by decide +kernel
theorem dX6_value_5 : decode cX6_value 5 = .ok (.astore 5, 2) := by decide +kernel
theorem dX6_value_7 : decode cX6_value 7 = .ok (.iload_n 2, 1) := by decide +kernel
theorem dX6_value_8 : decode cX6_value 8 = .ok (.invokestatic 70, 3) := by decide +kernel
theorem dX6_value_11 : decode cX6_value 11 = .ok (.iload_n 3, 1) := by decide +kernel
theorem dX6_value_12 : decode cX6_value 12 = .ok (.invokestatic 73, 3) := by decide +kernel
theorem dX6_value_15 : decode cX6_value 15 = .ok (.aload_n 0, 1) := by decide +kernel
theorem dX6_value_16 : decode cX6_value 16 = .ok (.iload 4, 2) := by decide +kernel
theorem dX6_value_18 : decode cX6_value 18 = .ok (.invokevirtual 141, 3) := by decide +kernel
theorem dX6_value_21 : decode cX6_value 21 = .ok (.aload_n 0, 1) := by decide +kernel
theorem dX6_value_22 : decode cX6_value 22 = .ok (.aload 5, 2) := by decide +kernel
theorem dX6_value_24 : decode cX6_value 24 = .ok (.iload_n 3, 1) := by decide +kernel
theorem dX6_value_25 : decode cX6_value 25 = .ok (.iload 4, 2) := by decide +kernel
theorem dX6_value_27 : decode cX6_value 27 = .ok (.invokevirtual 144, 3) := by decide +kernel
theorem dX6_value_30 : decode cX6_value 30 = .ok (.aload_n 0, 1) := by decide +kernel
theorem dX6_value_31 : decode cX6_value 31 = .ok (.getfield 29, 3) := by decide +kernel
theorem dX6_value_34 : decode cX6_value 34 = .ok (.iload_n 2, 1) := by decide +kernel
theorem dX6_value_35 : decode cX6_value 35 = .ok (.invokevirtual 148, 3) := by decide +kernel
theorem dX6_value_38 : decode cX6_value 38 = .ok (.ireturn, 1) := by decide +kernel
set_option maxRecDepth 20000 in
theorem ggX6_isCovered_X6_policyNumbered : GoodIn wsX6_isCovered wsX6_policyNumbered := goodIn_ca (goodIn_r _ [7, 8, 9, 10, 11, 12, 13, 14, 15, 16, 17, 18, 19, 20, 21, 22, 23, 24, 25, 26, 27, 28, 29, 30, 31, 32, 33, 34, 105, 106, 107, 108, 109, 110, 113, 114, 115] (by decide +kernel) (by decide +kernel)) (goodIn_sub (fun _ h => List.mem_cons_of_mem _ (List.mem_append_left _ (List.mem_append_right _ h))) (by decide +kernel))
set_option maxRecDepth 20000 in
theorem gX6_isCovered_X6_policyNumbered : GoodIn wsX6_isCovered (wsV RX6 84 RX6 yX6_policyNumbered wsX6_policyNumbered) := goodIn_app (goodIn_of _ (by decide +kernel)) ggX6_isCovered_X6_policyNumbered
set_option maxRecDepth 20000 in
theorem ggX6_isCovered_X6_demandDay : GoodIn wsX6_isCovered wsX6_demandDay := goodIn_ca (goodIn_r _ [37, 38, 39, 6, 40, 41, 42] (by decide +kernel) (by decide +kernel)) (goodIn_sub (fun _ h => List.mem_cons_of_mem _ (List.mem_append_right _ h)) (by decide +kernel))
set_option maxRecDepth 20000 in
theorem gX6_isCovered_X6_demandDay : GoodIn wsX6_isCovered (va_wsS RX6 73 yX6_demandDay wsX6_demandDay) := goodIn_app (goodIn_of _ (by decide +kernel)) ggX6_isCovered_X6_demandDay
set_option maxRecDepth 20000 in
theorem ggX6_isCovered_X6_demandKnown : GoodIn wsX6_isCovered wsX6_demandKnown := goodIn_ca (goodIn_r _ [46, 47, 38, 39, 6, 40, 41, 42, 105, 106, 107, 108, 109, 110] (by decide +kernel) (by decide +kernel)) (goodIn_sub (fun _ h => List.mem_cons_of_mem _ (List.mem_append_right _ h)) (by decide +kernel))
set_option maxRecDepth 20000 in
theorem gX6_isCovered_X6_demandKnown : GoodIn wsX6_isCovered (wsV RX6 141 RX6 yX6_demandKnown wsX6_demandKnown) := goodIn_app (goodIn_of _ (by decide +kernel)) ggX6_isCovered_X6_demandKnown
set_option maxRecDepth 20000 in
theorem ggX6_isCovered_X6_layVersion : GoodIn wsX6_isCovered wsX6_layVersion := goodIn_r _ [51, 1, 52, 53, 54, 55, 56, 57, 58, 59, 60, 61, 62, 63, 64, 65, 6, 66, 67, 68, 69, 70, 71, 72, 73, 12, 13, 14, 15, 16, 17, 18, 19, 20, 21, 22, 23, 24, 25, 26, 27, 28, 29, 30, 31, 32, 33, 34, 74, 75, 76, 77, 78, 79, 80, 81, 82, 83, 84, 85, 86, 87, 88, 89, 90, 91, 92, 93, 94, 95, 96, 97, 98, 99, 100, 101, 102, 103, 104, 105, 106, 107, 108, 109, 110, 111, 112, 116, 117, 118, 119, 120, 121, 122, 123, 124, 125, 126, 113, 114, 115] (by decide +kernel) (by decide +kernel)
set_option maxRecDepth 20000 in
theorem gX6_isCovered_X6_layVersion : GoodIn wsX6_isCovered (wsV RX6 144 RX6 yX6_layVersion wsX6_layVersion) := goodIn_app (goodIn_of _ (by decide +kernel)) ggX6_isCovered_X6_layVersion
theorem dX6_isCovered_0 : decode cX6_isCovered 0 = .ok (.aload_n 0, 1) := by decide +kernel
theorem dX6_isCovered_1 : decode cX6_isCovered 1 = .ok (.iload_n 1, 1) := by decide +kernel
theorem dX6_isCovered_2 : decode cX6_isCovered 2 = .ok (.invokevirtual 84, 3) := by decide +kernel
theorem dX6_isCovered_5 : decode cX6_isCovered 5 = .ok (.astore 4, 2) := by decide +kernel
theorem dX6_isCovered_7 : decode cX6_isCovered 7 = .ok (.iload_n 2, 1) := by decide +kernel
theorem dX6_isCovered_8 : decode cX6_isCovered 8 = .ok (.invokestatic 73, 3) := by decide +kernel
theorem dX6_isCovered_11 : decode cX6_isCovered 11 = .ok (.aload_n 0, 1) := by decide +kernel
theorem dX6_isCovered_12 : decode cX6_isCovered 12 = .ok (.iload_n 3, 1) := by decide +kernel
theorem dX6_isCovered_13 : decode cX6_isCovered 13 = .ok (.invokevirtual 141, 3) := by decide +kernel
theorem dX6_isCovered_16 : decode cX6_isCovered 16 = .ok (.aload_n 0, 1) := by decide +kernel
theorem dX6_isCovered_17 : decode cX6_isCovered 17 = .ok (.aload 4, 2) := by decide +kernel
theorem dX6_isCovered_19 : decode cX6_isCovered 19 = .ok (.iload_n 2, 1) := by decide +kernel
theorem dX6_isCovered_20 : decode cX6_isCovered 20 = .ok (.iload_n 3, 1) := by decide +kernel
theorem dX6_isCovered_21 : decode cX6_isCovered 21 = .ok (.invokevirtual 144, 3) := by decide +kernel
theorem dX6_isCovered_24 : decode cX6_isCovered 24 = .ok (.aload_n 0, 1) := by decide +kernel
theorem dX6_isCovered_25 : decode cX6_isCovered 25 = .ok (.getfield 29, 3) := by decide +kernel
theorem dX6_isCovered_28 : decode cX6_isCovered 28 = .ok (.getfield 152, 3) := by decide +kernel
theorem dX6_isCovered_31 : decode cX6_isCovered 31 = .ok (.ireturn, 1) := by decide +kernel
set_option maxRecDepth 20000 in
theorem ggX6_rate_X6_policyNumbered : GoodIn wsX6_rate wsX6_policyNumbered := goodIn_ca (goodIn_r _ [5, 6, 7, 8, 9, 10, 11, 12, 13, 14, 15, 16, 17, 18, 19, 20, 21, 22, 23, 24, 25, 26, 27, 28, 29, 30, 31, 32, 120, 121, 122, 123, 124, 125, 126, 127, 128] (by decide +kernel) (by decide +kernel)) (goodIn_sub (fun _ h => List.mem_cons_of_mem _ (List.mem_append_left _ (List.mem_append_right _ h))) (by decide +kernel))
set_option maxRecDepth 20000 in
theorem gX6_rate_X6_policyNumbered : GoodIn wsX6_rate (wsV RX6 84 RX6 yX6_policyNumbered wsX6_policyNumbered) := goodIn_app (goodIn_of _ (by decide +kernel)) ggX6_rate_X6_policyNumbered
set_option maxRecDepth 20000 in
theorem ggX6_rate_X6_demandDay : GoodIn wsX6_rate wsX6_demandDay := goodIn_ca (goodIn_r _ [35, 36, 37, 4, 38, 39, 40] (by decide +kernel) (by decide +kernel)) (goodIn_sub (fun _ h => List.mem_cons_of_mem _ (List.mem_append_right _ h)) (by decide +kernel))
set_option maxRecDepth 20000 in
theorem gX6_rate_X6_demandDay : GoodIn wsX6_rate (va_wsS RX6 73 yX6_demandDay wsX6_demandDay) := goodIn_app (goodIn_of _ (by decide +kernel)) ggX6_rate_X6_demandDay
set_option maxRecDepth 20000 in
theorem ggX6_rate_X6_demandKnown : GoodIn wsX6_rate wsX6_demandKnown := goodIn_ca (goodIn_r _ [44, 45, 36, 37, 4, 38, 39, 40, 120, 121, 122, 123, 124, 125] (by decide +kernel) (by decide +kernel)) (goodIn_sub (fun _ h => List.mem_cons_of_mem _ (List.mem_append_right _ h)) (by decide +kernel))
set_option maxRecDepth 20000 in
theorem gX6_rate_X6_demandKnown : GoodIn wsX6_rate (wsV RX6 141 RX6 yX6_demandKnown wsX6_demandKnown) := goodIn_app (goodIn_of _ (by decide +kernel)) ggX6_rate_X6_demandKnown
set_option maxRecDepth 20000 in
theorem ggX6_rate_X6_layVersion : GoodIn wsX6_rate wsX6_layVersion := goodIn_r _ [49, 50, 51, 52, 53, 54, 55, 56, 57, 58, 59, 60, 61, 62, 63, 64, 4, 65, 66, 67, 68, 69, 70, 71, 72, 10, 11, 12, 13, 14, 15, 16, 17, 18, 19, 20, 21, 22, 23, 24, 25, 26, 27, 28, 29, 30, 31, 32, 73, 74, 75, 76, 77, 78, 79, 80, 81, 82, 83, 84, 85, 86, 87, 88, 89, 90, 91, 92, 93, 94, 95, 96, 97, 98, 99, 100, 101, 102, 103, 120, 121, 122, 123, 124, 125, 129, 130, 131, 132, 133, 134, 135, 136, 137, 138, 139, 140, 141, 126, 127, 128] (by decide +kernel) (by decide +kernel)
set_option maxRecDepth 20000 in
theorem gX6_rate_X6_layVersion : GoodIn wsX6_rate (wsV RX6 144 RX6 yX6_layVersion wsX6_layVersion) := goodIn_app (goodIn_of _ (by decide +kernel)) ggX6_rate_X6_layVersion
set_option maxRecDepth 20000 in
theorem ggX6_rate_X6_rateOfVersion : GoodIn wsX6_rate wsX6_rateOfVersion := goodIn_r _ [107, 50, 108, 109, 110, 111, 101, 102, 54, 103, 56, 98, 4, 99, 112, 113, 114, 115, 116, 117, 118, 119, 120, 121, 122, 123, 124, 125, 129, 130, 131, 132, 133, 142, 143, 144] (by decide +kernel) (by decide +kernel)
set_option maxRecDepth 20000 in
theorem gX6_rate_X6_rateOfVersion : GoodIn wsX6_rate (wsV RX6 156 RX6 yX6_rateOfVersion wsX6_rateOfVersion) := goodIn_app (goodIn_of _ (by decide +kernel)) ggX6_rate_X6_rateOfVersion
theorem dX6_rate_0 : decode cX6_rate 0 = .ok (.aload_n 0, 1) := by decide +kernel
theorem dX6_rate_1 : decode cX6_rate 1 = .ok (.iload_n 1, 1) := by decide +kernel
theorem dX6_rate_2 : decode cX6_rate 2 = .ok (.invokevirtual 84, 3) := by decide +kernel
theorem dX6_rate_5 : decode cX6_rate 5 = .ok (.astore 4, 2) := by decide +kernel
theorem dX6_rate_7 : decode cX6_rate 7 = .ok (.iload_n 2, 1) := by decide +kernel
theorem dX6_rate_8 : decode cX6_rate 8 = .ok (.invokestatic 73, 3) := by decide +kernel
theorem dX6_rate_11 : decode cX6_rate 11 = .ok (.aload_n 0, 1) := by decide +kernel
theorem dX6_rate_12 : decode cX6_rate 12 = .ok (.iload_n 3, 1) := by decide +kernel
theorem dX6_rate_13 : decode cX6_rate 13 = .ok (.invokevirtual 141, 3) := by decide +kernel
theorem dX6_rate_16 : decode cX6_rate 16 = .ok (.aload_n 0, 1) := by decide +kernel
theorem dX6_rate_17 : decode cX6_rate 17 = .ok (.aload 4, 2) := by decide +kernel
theorem dX6_rate_19 : decode cX6_rate 19 = .ok (.iload_n 2, 1) := by decide +kernel
theorem dX6_rate_20 : decode cX6_rate 20 = .ok (.iload_n 3, 1) := by decide +kernel
theorem dX6_rate_21 : decode cX6_rate 21 = .ok (.invokevirtual 144, 3) := by decide +kernel
theorem dX6_rate_24 : decode cX6_rate 24 = .ok (.aload_n 0, 1) := by decide +kernel
theorem dX6_rate_25 : decode cX6_rate 25 = .ok (.aload 4, 2) := by decide +kernel
theorem dX6_rate_27 : decode cX6_rate 27 = .ok (.iload_n 2, 1) := by decide +kernel
theorem dX6_rate_28 : decode cX6_rate 28 = .ok (.invokevirtual 156, 3) := by decide +kernel
theorem dX6_rate_31 : decode cX6_rate 31 = .ok (.ireturn, 1) := by decide +kernel
set_option maxRecDepth 20000 in
theorem ggX6_segments_X6_policyNumbered : GoodIn wsX6_segments wsX6_policyNumbered := goodIn_ca (goodIn_r _ [6, 7, 8, 9, 10, 11, 12, 13, 14, 15, 16, 17, 18, 19, 20, 21, 22, 23, 24, 25, 26, 27, 28, 29, 30, 31, 32, 33, 133, 134, 135, 136, 137, 138, 139, 140, 141] (by decide +kernel) (by decide +kernel)) (goodIn_sub (fun _ h => List.mem_cons_of_mem _ (List.mem_append_left _ (List.mem_append_right _ h))) (by decide +kernel))
set_option maxRecDepth 20000 in
theorem gX6_segments_X6_policyNumbered : GoodIn wsX6_segments (wsV RX6 84 RX6 yX6_policyNumbered wsX6_policyNumbered) := goodIn_app (goodIn_of _ (by decide +kernel)) ggX6_segments_X6_policyNumbered
set_option maxRecDepth 20000 in
theorem ggX6_segments_X6_demandKnown : GoodIn wsX6_segments wsX6_demandKnown := goodIn_ca (goodIn_r _ [37, 38, 39, 40, 5, 41, 42, 43, 133, 134, 135, 136, 137, 138] (by decide +kernel) (by decide +kernel)) (goodIn_sub (fun _ h => List.mem_cons_of_mem _ (List.mem_append_right _ h)) (by decide +kernel))
set_option maxRecDepth 20000 in
theorem gX6_segments_X6_demandKnown : GoodIn wsX6_segments (wsV RX6 141 RX6 yX6_demandKnown wsX6_demandKnown) := goodIn_app (goodIn_of _ (by decide +kernel)) ggX6_segments_X6_demandKnown
set_option maxRecDepth 20000 in
theorem ggX6_segments_X6_layYear : GoodIn wsX6_segments wsX6_layYear := goodIn_r _ [47, 48, 1, 49, 50, 51, 52, 53, 54, 55, 56, 57, 58, 59, 60, 61, 62, 5, 63, 64, 65, 66, 67, 68, 69, 70, 11, 12, 13, 14, 15, 16, 17, 18, 19, 20, 21, 22, 23, 24, 25, 26, 27, 28, 29, 30, 31, 32, 33, 71, 72, 73, 74, 75, 76, 77, 78, 79, 80, 81, 82, 83, 84, 85, 86, 87, 88, 89, 90, 91, 92, 93, 94, 95, 96, 97, 98, 99, 100, 101, 102, 103, 104, 105, 106, 107, 108, 109, 110, 111, 112, 113, 114, 115, 116, 117, 118, 119, 120, 121, 122, 123, 124, 133, 134, 135, 136, 137, 138, 142, 143, 144, 145, 146, 147, 148, 149, 150, 151, 152, 153, 154, 139, 140, 141, 155, 156, 157, 158, 159] (by decide +kernel) (by decide +kernel)
set_option maxRecDepth 20000 in
theorem gX6_segments_X6_layYear : GoodIn wsX6_segments (wsV RX6 160 RX6 yX6_layYear wsX6_layYear) := goodIn_app (goodIn_of _ (by decide +kernel)) ggX6_segments_X6_layYear
set_option maxRecDepth 20000 in
theorem ggX6_segments_X5_countSegments : GoodIn wsX6_segments wsX5_countSegments := goodIn_r _ [128, 129, 130, 131, 121, 132, 123, 116, 5, 117, 158, 159] (by decide +kernel) (by decide +kernel)
set_option maxRecDepth 20000 in
theorem gX6_segments_X5_countSegments : GoodIn wsX6_segments (wsV RX6 164 RX5 yX5_countSegments wsX5_countSegments) := goodIn_app (goodIn_of _ (by decide +kernel)) ggX6_segments_X5_countSegments
theorem dX6_segments_0 : decode cX6_segments 0 = .ok (.aload_n 0, 1) := by decide +kernel
theorem dX6_segments_1 : decode cX6_segments 1 = .ok (.iload_n 1, 1) := by decide +kernel
theorem dX6_segments_2 : decode cX6_segments 2 = .ok (.invokevirtual 84, 3) := by decide +kernel
theorem dX6_segments_5 : decode cX6_segments 5 = .ok (.astore_n 3, 1) := by decide +kernel
theorem dX6_segments_6 : decode cX6_segments 6 = .ok (.aload_n 0, 1) := by decide +kernel
theorem dX6_segments_7 : decode cX6_segments 7 = .ok (.iload_n 2, 1) := by decide +kernel
theorem dX6_segments_8 : decode cX6_segments 8 = .ok (.invokevirtual 141, 3) := by decide +kernel
theorem dX6_segments_11 : decode cX6_segments 11 = .ok (.aload_n 0, 1) := by decide +kernel
theorem dX6_segments_12 : decode cX6_segments 12 = .ok (.aload_n 3, 1) := by decide +kernel
theorem dX6_segments_13 : decode cX6_segments 13 = .ok (.iload_n 2, 1) := by decide +kernel
theorem dX6_segments_14 : decode cX6_segments 14 = .ok (.invokevirtual 160, 3) := by decide +kernel
theorem dX6_segments_17 : decode cX6_segments 17 = .ok (.aload_n 0, 1) := by decide +kernel
theorem dX6_segments_18 : decode cX6_segments 18 = .ok (.getfield 36, 3) := by decide +kernel
theorem dX6_segments_21 : decode cX6_segments 21 = .ok (.invokevirtual 164, 3) := by decide +kernel
theorem dX6_segments_24 : decode cX6_segments 24 = .ok (.ireturn, 1) := by decide +kernel
set_option maxRecDepth 20000 in
theorem ggX6_segmentStart_X6_demandKnown : GoodIn wsX6_segmentStart wsX6_demandKnown := goodIn_ca (goodIn_r _ [5, 6, 7, 8, 4, 9, 10, 11, 137, 138, 139, 140, 141, 142] (by decide +kernel) (by decide +kernel)) (goodIn_sub (fun _ h => List.mem_cons_of_mem _ (List.mem_append_left _ (List.mem_append_right _ h))) (by decide +kernel))
set_option maxRecDepth 20000 in
theorem gX6_segmentStart_X6_demandKnown : GoodIn wsX6_segmentStart (wsV RX6 141 RX6 yX6_demandKnown wsX6_demandKnown) := goodIn_app (goodIn_of _ (by decide +kernel)) ggX6_segmentStart_X6_demandKnown
set_option maxRecDepth 20000 in
theorem ggX6_segmentStart_X6_startOfSegment : GoodIn wsX6_segmentStart wsX6_startOfSegment := goodIn_ca (goodIn_r _ [15, 16, 17, 18, 19, 20, 21, 4, 22, 23, 24, 25, 26, 27, 28, 29, 30, 31, 32, 33, 34, 35, 36, 37, 38, 39, 40, 41, 42, 43, 44, 45, 46, 47, 48, 49, 50, 51, 52, 53, 54, 55, 56, 57, 58, 59, 60, 61, 62, 63, 64, 65, 66, 67, 68, 69, 70, 71, 72, 73, 74, 75, 76, 77, 78, 79, 80, 81, 82, 83, 84, 85, 86, 87, 88, 89, 90, 91, 92, 93, 94, 95, 96, 97, 98, 99, 100, 101, 102, 103, 104, 105, 106, 107, 108, 109, 110, 111, 112, 113, 114, 115, 116, 117, 118, 119, 120, 121, 122, 123, 124, 125, 126, 127, 128, 129, 130, 131, 132, 133, 134, 135, 136, 137, 138, 139, 140, 141, 142, 143, 144, 145, 146, 147, 148, 149, 150, 151, 152, 153, 154, 155, 156, 157, 158, 159, 160, 161, 162, 163] (by decide +kernel) (by decide +kernel)) (goodIn_sub (fun _ h => List.mem_cons_of_mem _ (List.mem_append_right _ h)) (by decide +kernel))
set_option maxRecDepth 20000 in
theorem gX6_segmentStart_X6_startOfSegment : GoodIn wsX6_segmentStart (wsV RX6 167 RX6 yX6_startOfSegment wsX6_startOfSegment) := goodIn_app (goodIn_of _ (by decide +kernel)) ggX6_segmentStart_X6_startOfSegment
theorem dX6_segmentStart_0 : decode cX6_segmentStart 0 = .ok (.aload_n 0, 1) := by decide +kernel
theorem dX6_segmentStart_1 : decode cX6_segmentStart 1 = .ok (.iload_n 3, 1) := by decide +kernel
theorem dX6_segmentStart_2 : decode cX6_segmentStart 2 = .ok (.invokevirtual 141, 3) := by decide +kernel
theorem dX6_segmentStart_5 : decode cX6_segmentStart 5 = .ok (.aload_n 0, 1) := by decide +kernel
theorem dX6_segmentStart_6 : decode cX6_segmentStart 6 = .ok (.iload_n 1, 1) := by decide +kernel
theorem dX6_segmentStart_7 : decode cX6_segmentStart 7 = .ok (.iload_n 2, 1) := by decide +kernel
theorem dX6_segmentStart_8 : decode cX6_segmentStart 8 = .ok (.iload_n 3, 1) := by decide +kernel
theorem dX6_segmentStart_9 : decode cX6_segmentStart 9 = .ok (.invokevirtual 167, 3) := by decide +kernel
theorem dX6_segmentStart_12 : decode cX6_segmentStart 12 = .ok (.ireturn, 1) := by decide +kernel
set_option maxRecDepth 20000 in
theorem ggX6_segmentPremium_X6_demandKnown : GoodIn wsX6_segmentPremium wsX6_demandKnown := goodIn_ca (goodIn_r _ [6, 7, 8, 9, 5, 10, 11, 12, 149, 150, 151, 152, 153, 154] (by decide +kernel) (by decide +kernel)) (goodIn_sub (fun _ h => List.mem_cons_of_mem _ (List.mem_append_left _ (List.mem_append_right _ h))) (by decide +kernel))
set_option maxRecDepth 20000 in
theorem gX6_segmentPremium_X6_demandKnown : GoodIn wsX6_segmentPremium (wsV RX6 141 RX6 yX6_demandKnown wsX6_demandKnown) := goodIn_app (goodIn_of _ (by decide +kernel)) ggX6_segmentPremium_X6_demandKnown
set_option maxRecDepth 20000 in
theorem ggX6_segmentPremium_X6_startOfSegment : GoodIn wsX6_segmentPremium wsX6_startOfSegment := goodIn_ca (goodIn_r _ [16, 17, 18, 1, 19, 20, 21, 5, 22, 23, 24, 25, 26, 27, 28, 29, 30, 31, 32, 33, 34, 35, 36, 37, 38, 39, 40, 41, 42, 43, 44, 45, 46, 47, 48, 49, 50, 51, 52, 53, 54, 55, 56, 57, 58, 59, 60, 61, 62, 63, 64, 65, 66, 67, 68, 69, 70, 71, 72, 73, 74, 75, 76, 77, 78, 79, 80, 81, 82, 83, 84, 85, 86, 87, 88, 89, 90, 91, 92, 93, 94, 95, 96, 97, 98, 99, 100, 101, 102, 103, 104, 105, 106, 107, 108, 109, 110, 111, 112, 113, 114, 115, 116, 117, 118, 119, 120, 121, 122, 123, 124, 125, 126, 127, 128, 129, 130, 131, 132, 133, 134, 135, 136, 149, 150, 151, 152, 153, 154, 155, 156, 157, 158, 159, 160, 161, 162, 163, 164, 165, 166, 167, 168, 169, 170, 171, 172, 173, 174, 175] (by decide +kernel) (by decide +kernel)) (goodIn_sub (fun _ h => List.mem_cons_of_mem _ (List.mem_append_right _ h)) (by decide +kernel))
set_option maxRecDepth 20000 in
theorem gX6_segmentPremium_X6_startOfSegment : GoodIn wsX6_segmentPremium (wsV RX6 167 RX6 yX6_startOfSegment wsX6_startOfSegment) := goodIn_app (goodIn_of _ (by decide +kernel)) ggX6_segmentPremium_X6_startOfSegment
set_option maxRecDepth 20000 in
theorem ggX6_segmentPremium_X5_premiumOfSegmentFrom : GoodIn wsX6_segmentPremium wsX5_premiumOfSegmentFrom := goodIn_r _ [140, 141, 142, 143, 125, 144, 127, 120, 5, 121, 145, 146, 147, 148, 128, 174, 175] (by decide +kernel) (by decide +kernel)
set_option maxRecDepth 20000 in
theorem gX6_segmentPremium_X5_premiumOfSegmentFrom : GoodIn wsX6_segmentPremium (wsV RX6 171 RX5 yX5_premiumOfSegmentFrom wsX5_premiumOfSegmentFrom) := goodIn_app (goodIn_of _ (by decide +kernel)) ggX6_segmentPremium_X5_premiumOfSegmentFrom
theorem dX6_segmentPremium_0 : decode cX6_segmentPremium 0 = .ok (.aload_n 0, 1) := by decide +kernel
theorem dX6_segmentPremium_1 : decode cX6_segmentPremium 1 = .ok (.iload_n 3, 1) := by decide +kernel
theorem dX6_segmentPremium_2 : decode cX6_segmentPremium 2 = .ok (.invokevirtual 141, 3) := by decide +kernel
theorem dX6_segmentPremium_5 : decode cX6_segmentPremium 5 = .ok (.aload_n 0, 1) := by decide +kernel
theorem dX6_segmentPremium_6 : decode cX6_segmentPremium 6 = .ok (.getfield 36, 3) := by decide +kernel
theorem dX6_segmentPremium_9 : decode cX6_segmentPremium 9 = .ok (.aload_n 0, 1) := by decide +kernel
theorem dX6_segmentPremium_10 : decode cX6_segmentPremium 10 = .ok (.iload_n 1, 1) := by decide +kernel
theorem dX6_segmentPremium_11 : decode cX6_segmentPremium 11 = .ok (.iload_n 2, 1) := by decide +kernel
theorem dX6_segmentPremium_12 : decode cX6_segmentPremium 12 = .ok (.iload_n 3, 1) := by decide +kernel
theorem dX6_segmentPremium_13 : decode cX6_segmentPremium 13 = .ok (.invokevirtual 167, 3) := by decide +kernel
theorem dX6_segmentPremium_16 : decode cX6_segmentPremium 16 = .ok (.invokevirtual 171, 3) := by decide +kernel
theorem dX6_segmentPremium_19 : decode cX6_segmentPremium 19 = .ok (.ireturn, 1) := by decide +kernel
set_option maxRecDepth 20000 in
theorem ggX6_premium_X6_policyNumbered : GoodIn wsX6_premium wsX6_policyNumbered := goodIn_ca (goodIn_r _ [5, 6, 7, 8, 9, 10, 11, 12, 13, 14, 15, 16, 17, 18, 19, 20, 21, 22, 23, 24, 25, 26, 27, 28, 29, 30, 31, 32, 149, 150, 151, 152, 153, 154, 155, 156, 157] (by decide +kernel) (by decide +kernel)) (goodIn_sub (fun _ h => List.mem_cons_of_mem _ (List.mem_append_left _ (List.mem_append_right _ h))) (by decide +kernel))
set_option maxRecDepth 20000 in
theorem gX6_premium_X6_policyNumbered : GoodIn wsX6_premium (wsV RX6 84 RX6 yX6_policyNumbered wsX6_policyNumbered) := goodIn_app (goodIn_of _ (by decide +kernel)) ggX6_premium_X6_policyNumbered
set_option maxRecDepth 20000 in
theorem ggX6_premium_X6_demandKnown : GoodIn wsX6_premium wsX6_demandKnown := goodIn_ca (goodIn_r _ [36, 37, 38, 39, 4, 40, 41, 42, 149, 150, 151, 152, 153, 154] (by decide +kernel) (by decide +kernel)) (goodIn_sub (fun _ h => List.mem_cons_of_mem _ (List.mem_append_right _ h)) (by decide +kernel))
set_option maxRecDepth 20000 in
theorem gX6_premium_X6_demandKnown : GoodIn wsX6_premium (wsV RX6 141 RX6 yX6_demandKnown wsX6_demandKnown) := goodIn_app (goodIn_of _ (by decide +kernel)) ggX6_premium_X6_demandKnown
set_option maxRecDepth 20000 in
theorem ggX6_premium_X6_premiumBySegments : GoodIn wsX6_premium wsX6_premiumBySegments := goodIn_r _ [46, 47, 48, 49, 50, 4, 51, 52, 53, 54, 55, 56, 57, 58, 59, 60, 61, 62, 63, 64, 65, 66, 67, 68, 69, 70, 71, 72, 73, 74, 10, 11, 12, 13, 14, 15, 16, 17, 18, 19, 20, 21, 22, 23, 24, 25, 26, 27, 28, 29, 30, 31, 32, 75, 76, 77, 78, 79, 80, 81, 82, 83, 84, 85, 86, 87, 88, 89, 90, 91, 92, 93, 94, 95, 96, 97, 98, 99, 100, 101, 102, 103, 104, 105, 106, 107, 108, 109, 110, 111, 112, 113, 114, 115, 116, 117, 118, 119, 120, 121, 122, 123, 124, 125, 126, 127, 128, 129, 130, 131, 132, 133, 134, 135, 136, 137, 138, 139, 140, 141, 142, 143, 144, 145, 146, 147, 148, 149, 150, 151, 152, 153, 154, 158, 159, 160, 161, 162, 163, 164, 165, 166, 167, 168, 169, 170, 155, 156, 157, 171, 172, 173, 174, 175] (by decide +kernel) (by decide +kernel)
set_option maxRecDepth 20000 in
theorem gX6_premium_X6_premiumBySegments : GoodIn wsX6_premium (wsV RX6 174 RX6 yX6_premiumBySegments wsX6_premiumBySegments) := goodIn_app (goodIn_of _ (by decide +kernel)) ggX6_premium_X6_premiumBySegments
theorem dX6_premium_0 : decode cX6_premium 0 = .ok (.aload_n 0, 1) := by decide +kernel
theorem dX6_premium_1 : decode cX6_premium 1 = .ok (.iload_n 1, 1) := by decide +kernel
theorem dX6_premium_2 : decode cX6_premium 2 = .ok (.invokevirtual 84, 3) := by decide +kernel
theorem dX6_premium_5 : decode cX6_premium 5 = .ok (.astore_n 3, 1) := by decide +kernel
theorem dX6_premium_6 : decode cX6_premium 6 = .ok (.aload_n 0, 1) := by decide +kernel
theorem dX6_premium_7 : decode cX6_premium 7 = .ok (.iload_n 2, 1) := by decide +kernel
theorem dX6_premium_8 : decode cX6_premium 8 = .ok (.invokevirtual 141, 3) := by decide +kernel
theorem dX6_premium_11 : decode cX6_premium 11 = .ok (.aload_n 0, 1) := by decide +kernel
theorem dX6_premium_12 : decode cX6_premium 12 = .ok (.aload_n 3, 1) := by decide +kernel
theorem dX6_premium_13 : decode cX6_premium 13 = .ok (.iload_n 2, 1) := by decide +kernel
theorem dX6_premium_14 : decode cX6_premium 14 = .ok (.invokevirtual 174, 3) := by decide +kernel
theorem dX6_premium_17 : decode cX6_premium 17 = .ok (.ireturn, 1) := by decide +kernel
set_option maxRecDepth 20000 in
theorem ggX6_premiumByDays_X6_policyNumbered : GoodIn wsX6_premiumByDays wsX6_policyNumbered := goodIn_ca (goodIn_r _ [5, 6, 7, 8, 9, 10, 11, 12, 13, 14, 15, 16, 17, 18, 19, 20, 21, 22, 23, 24, 25, 26, 27, 28, 29, 30, 31, 32, 117, 118, 119, 120, 121, 122, 123, 124, 125] (by decide +kernel) (by decide +kernel)) (goodIn_sub (fun _ h => List.mem_cons_of_mem _ (List.mem_append_left _ (List.mem_append_right _ h))) (by decide +kernel))
set_option maxRecDepth 20000 in
theorem gX6_premiumByDays_X6_policyNumbered : GoodIn wsX6_premiumByDays (wsV RX6 84 RX6 yX6_policyNumbered wsX6_policyNumbered) := goodIn_app (goodIn_of _ (by decide +kernel)) ggX6_premiumByDays_X6_policyNumbered
set_option maxRecDepth 20000 in
theorem ggX6_premiumByDays_X6_demandKnown : GoodIn wsX6_premiumByDays wsX6_demandKnown := goodIn_ca (goodIn_r _ [36, 37, 38, 39, 4, 40, 41, 42, 117, 118, 119, 120, 121, 122] (by decide +kernel) (by decide +kernel)) (goodIn_sub (fun _ h => List.mem_cons_of_mem _ (List.mem_append_right _ h)) (by decide +kernel))
set_option maxRecDepth 20000 in
theorem gX6_premiumByDays_X6_demandKnown : GoodIn wsX6_premiumByDays (wsV RX6 141 RX6 yX6_demandKnown wsX6_demandKnown) := goodIn_app (goodIn_of _ (by decide +kernel)) ggX6_premiumByDays_X6_demandKnown
set_option maxRecDepth 20000 in
theorem ggX6_premiumByDays_X6_layVersion : GoodIn wsX6_premiumByDays wsX6_layVersion := goodIn_r _ [46, 47, 48, 49, 50, 51, 52, 53, 54, 55, 56, 57, 58, 59, 60, 61, 4, 62, 63, 64, 65, 66, 67, 68, 69, 10, 11, 12, 13, 14, 15, 16, 17, 18, 19, 20, 21, 22, 23, 24, 25, 26, 27, 28, 29, 30, 31, 32, 70, 71, 72, 73, 74, 75, 76, 77, 78, 79, 80, 81, 82, 83, 84, 85, 86, 87, 88, 89, 90, 91, 92, 93, 94, 95, 96, 97, 98, 99, 100, 117, 118, 119, 120, 121, 122, 126, 127, 128, 129, 130, 131, 132, 133, 134, 135, 136, 137, 138, 123, 124, 125] (by decide +kernel) (by decide +kernel)
set_option maxRecDepth 20000 in
theorem gX6_premiumByDays_X6_layVersion : GoodIn wsX6_premiumByDays (wsV RX6 144 RX6 yX6_layVersion wsX6_layVersion) := goodIn_app (goodIn_of _ (by decide +kernel)) ggX6_premiumByDays_X6_layVersion
set_option maxRecDepth 20000 in
theorem ggX6_premiumByDays_X6_rateOfVersion : GoodIn wsX6_premiumByDays wsX6_rateOfVersion := goodIn_r _ [104, 47, 105, 106, 107, 108, 98, 99, 51, 100, 53, 95, 4, 96, 109, 110, 111, 112, 113, 114, 115, 116, 117, 118, 119, 120, 121, 122, 126, 127, 128, 129, 130, 139, 140, 141] (by decide +kernel) (by decide +kernel)
set_option maxRecDepth 20000 in
theorem gX6_premiumByDays_X6_rateOfVersion : GoodIn wsX6_premiumByDays (wsV RX6 156 RX6 yX6_rateOfVersion wsX6_rateOfVersion) := goodIn_app (goodIn_of _ (by decide +kernel)) ggX6_premiumByDays_X6_rateOfVersion
theorem dX6_premiumByDays_0 : decode cX6_premiumByDays 0 = .ok (.aload_n 0, 1) := by decide +kernel
theorem dX6_premiumByDays_1 : decode cX6_premiumByDays 1 = .ok (.iload_n 1, 1) := by decide +kernel
theorem dX6_premiumByDays_2 : decode cX6_premiumByDays 2 = .ok (.invokevirtual 84, 3) := by decide +kernel
theorem dX6_premiumByDays_5 : decode cX6_premiumByDays 5 = .ok (.astore_n 3, 1) := by decide +kernel
theorem dX6_premiumByDays_6 : decode cX6_premiumByDays 6 = .ok (.aload_n 0, 1) := by decide +kernel
theorem dX6_premiumByDays_7 : decode cX6_premiumByDays 7 = .ok (.iload_n 2, 1) := by decide +kernel
theorem dX6_premiumByDays_8 : decode cX6_premiumByDays 8 = .ok (.invokevirtual 141, 3) := by decide +kernel
theorem dX6_premiumByDays_11 : decode cX6_premiumByDays 11 = .ok (.iconst 0, 1) := by decide +kernel
theorem dX6_premiumByDays_12 : decode cX6_premiumByDays 12 = .ok (.istore 4, 2) := by decide +kernel
theorem dX6_premiumByDays_14 : decode cX6_premiumByDays 14 = .ok (.iconst 0, 1) := by decide +kernel
theorem dX6_premiumByDays_15 : decode cX6_premiumByDays 15 = .ok (.istore 5, 2) := by decide +kernel
theorem dX6_premiumByDays_17 : decode cX6_premiumByDays 17 = .ok (.iload 5, 2) := by decide +kernel
theorem dX6_premiumByDays_19 : decode cX6_premiumByDays 19 = .ok (.sipush 365, 3) := by decide +kernel
theorem dX6_premiumByDays_22 : decode cX6_premiumByDays 22 = .ok (.if_icmp .ge 29, 3) := by decide +kernel
theorem dX6_premiumByDays_25 : decode cX6_premiumByDays 25 = .ok (.aload_n 0, 1) := by decide +kernel
theorem dX6_premiumByDays_26 : decode cX6_premiumByDays 26 = .ok (.aload_n 3, 1) := by decide +kernel
theorem dX6_premiumByDays_27 : decode cX6_premiumByDays 27 = .ok (.iload 5, 2) := by decide +kernel
theorem dX6_premiumByDays_29 : decode cX6_premiumByDays 29 = .ok (.iload_n 2, 1) := by decide +kernel
theorem dX6_premiumByDays_30 : decode cX6_premiumByDays 30 = .ok (.invokevirtual 144, 3) := by decide +kernel
theorem dX6_premiumByDays_33 : decode cX6_premiumByDays 33 = .ok (.iload 4, 2) := by decide +kernel
theorem dX6_premiumByDays_35 : decode cX6_premiumByDays 35 = .ok (.aload_n 0, 1) := by decide +kernel
theorem dX6_premiumByDays_36 : decode cX6_premiumByDays 36 = .ok (.aload_n 3, 1) := by decide +kernel
theorem dX6_premiumByDays_37 : decode cX6_premiumByDays 37 = .ok (.iload 5, 2) := by decide +kernel
theorem dX6_premiumByDays_39 : decode cX6_premiumByDays 39 = .ok (.invokevirtual 156, 3) := by decide +kernel
theorem dX6_premiumByDays_42 : decode cX6_premiumByDays 42 = .ok (.iadd, 1) := by decide +kernel
theorem dX6_premiumByDays_43 : decode cX6_premiumByDays 43 = .ok (.istore 4, 2) := by decide +kernel
theorem dX6_premiumByDays_45 : decode cX6_premiumByDays 45 = .ok (.iinc 5 1, 3) := by decide +kernel
theorem dX6_premiumByDays_48 : decode cX6_premiumByDays 48 = .ok (.goto (-31), 3) := by decide +kernel
theorem dX6_premiumByDays_51 : decode cX6_premiumByDays 51 = .ok (.iload 4, 2) := by decide +kernel
theorem dX6_premiumByDays_53 : decode cX6_premiumByDays 53 = .ok (.sipush 365, 3) := by decide +kernel
theorem dX6_premiumByDays_56 : decode cX6_premiumByDays 56 = .ok (.idiv, 1) := by decide +kernel
theorem dX6_premiumByDays_57 : decode cX6_premiumByDays 57 = .ok (.ireturn, 1) := by decide +kernel
set_option maxRecDepth 20000 in
theorem ggX6_bill_X6_policyNumbered : GoodIn wsX6_bill wsX6_policyNumbered := goodIn_ca (goodIn_r _ [7, 8, 9, 10, 11, 12, 13, 14, 15, 16, 17, 18, 19, 20, 21, 22, 23, 24, 25, 26, 27, 28, 29, 30, 31, 32, 33, 34, 141, 142, 143, 144, 145, 146, 150, 151, 152] (by decide +kernel) (by decide +kernel)) (goodIn_sub (fun _ h => List.mem_cons_of_mem _ (List.mem_append_right _ h)) (by decide +kernel))
set_option maxRecDepth 20000 in
theorem gX6_bill_X6_policyNumbered : GoodIn wsX6_bill (wsV RX6 84 RX6 yX6_policyNumbered wsX6_policyNumbered) := goodIn_app (goodIn_of _ (by decide +kernel)) ggX6_bill_X6_policyNumbered
set_option maxRecDepth 20000 in
theorem ggX6_bill_X6_premiumBySegments : GoodIn wsX6_bill wsX6_premiumBySegments := goodIn_r _ [38, 39, 40, 41, 42, 6, 43, 44, 45, 46, 47, 48, 49, 50, 51, 52, 53, 54, 55, 56, 57, 58, 59, 60, 61, 62, 63, 64, 65, 66, 12, 13, 14, 15, 16, 17, 18, 19, 20, 21, 22, 23, 24, 25, 26, 27, 28, 29, 30, 31, 32, 33, 34, 67, 68, 69, 70, 71, 72, 73, 74, 75, 76, 77, 78, 79, 80, 81, 82, 83, 84, 85, 86, 87, 88, 89, 90, 91, 92, 93, 94, 95, 96, 97, 98, 99, 100, 101, 102, 103, 104, 105, 106, 107, 108, 109, 110, 111, 112, 113, 114, 115, 116, 117, 118, 119, 120, 121, 122, 123, 124, 125, 126, 127, 128, 129, 130, 131, 132, 133, 134, 135, 136, 137, 138, 139, 140, 141, 142, 143, 144, 145, 146, 153, 154, 147, 148, 149, 155, 156, 157, 158, 159, 160, 161, 162, 150, 151, 152, 163, 164, 165, 166, 167] (by decide +kernel) (by decide +kernel)
set_option maxRecDepth 20000 in
theorem gX6_bill_X6_premiumBySegments : GoodIn wsX6_bill (wsV RX6 174 RX6 yX6_premiumBySegments wsX6_premiumBySegments) := goodIn_app (goodIn_of _ (by decide +kernel)) ggX6_bill_X6_premiumBySegments
theorem dX6_bill_0 : decode cX6_bill 0 = .ok (.aload_n 0, 1) := by decide +kernel
theorem dX6_bill_1 : decode cX6_bill 1 = .ok (.iload_n 1, 1) := by decide +kernel
theorem dX6_bill_2 : decode cX6_bill 2 = .ok (.invokevirtual 84, 3) := by decide +kernel
theorem dX6_bill_5 : decode cX6_bill 5 = .ok (.astore_n 2, 1) := by decide +kernel
theorem dX6_bill_6 : decode cX6_bill 6 = .ok (.aload_n 0, 1) := by decide +kernel
theorem dX6_bill_7 : decode cX6_bill 7 = .ok (.aload_n 2, 1) := by decide +kernel
theorem dX6_bill_8 : decode cX6_bill 8 = .ok (.aload_n 0, 1) := by decide +kernel
theorem dX6_bill_9 : decode cX6_bill 9 = .ok (.getfield 40, 3) := by decide +kernel
theorem dX6_bill_12 : decode cX6_bill 12 = .ok (.invokevirtual 174, 3) := by decide +kernel
theorem dX6_bill_15 : decode cX6_bill 15 = .ok (.aload_n 2, 1) := by decide +kernel
theorem dX6_bill_16 : decode cX6_bill 16 = .ok (.getfield 177, 3) := by decide +kernel
theorem dX6_bill_19 : decode cX6_bill 19 = .ok (.isub, 1) := by decide +kernel
theorem dX6_bill_20 : decode cX6_bill 20 = .ok (.istore_n 3, 1) := by decide +kernel
theorem dX6_bill_21 : decode cX6_bill 21 = .ok (.aload_n 2, 1) := by decide +kernel
theorem dX6_bill_22 : decode cX6_bill 22 = .ok (.dup, 1) := by decide +kernel
theorem dX6_bill_23 : decode cX6_bill 23 = .ok (.getfield 177, 3) := by decide +kernel
theorem dX6_bill_26 : decode cX6_bill 26 = .ok (.iload_n 3, 1) := by decide +kernel
theorem dX6_bill_27 : decode cX6_bill 27 = .ok (.iadd, 1) := by decide +kernel
theorem dX6_bill_28 : decode cX6_bill 28 = .ok (.putfield 177, 3) := by decide +kernel
theorem dX6_bill_31 : decode cX6_bill 31 = .ok (.iload_n 3, 1) := by decide +kernel
theorem dX6_bill_32 : decode cX6_bill 32 = .ok (.ireturn, 1) := by decide +kernel
set_option maxRecDepth 20000 in
theorem ggX6_billed_X6_policyNumbered : GoodIn wsX6_billed wsX6_policyNumbered := goodIn_ca (goodIn_r _ [6, 7, 8, 9, 10, 11, 12, 13, 14, 15, 16, 17, 18, 19, 20, 21, 22, 23, 24, 25, 26, 27, 28, 29, 30, 31, 32, 33, 37, 38, 39, 40, 41, 42, 43, 44, 45] (by decide +kernel) (by decide +kernel)) (goodIn_sub (fun _ h => List.mem_cons_of_mem _ (List.mem_append_right _ h)) (by decide +kernel))
set_option maxRecDepth 20000 in
theorem gX6_billed_X6_policyNumbered : GoodIn wsX6_billed (wsV RX6 84 RX6 yX6_policyNumbered wsX6_policyNumbered) := goodIn_app (goodIn_of _ (by decide +kernel)) ggX6_billed_X6_policyNumbered
theorem dX6_billed_0 : decode cX6_billed 0 = .ok (.aload_n 0, 1) := by decide +kernel
theorem dX6_billed_1 : decode cX6_billed 1 = .ok (.iload_n 1, 1) := by decide +kernel
theorem dX6_billed_2 : decode cX6_billed 2 = .ok (.invokevirtual 84, 3) := by decide +kernel
theorem dX6_billed_5 : decode cX6_billed 5 = .ok (.getfield 177, 3) := by decide +kernel
theorem dX6_billed_8 : decode cX6_billed 8 = .ok (.ireturn, 1) := by decide +kernel
theorem dX6_demandWithin_0 : decode cX6_demandWithin 0 = .ok (.iload_n 0, 1) := by decide +kernel
theorem dX6_demandWithin_1 : decode cX6_demandWithin 1 = .ok (.iload_n 1, 1) := by decide +kernel
theorem dX6_demandWithin_2 : decode cX6_demandWithin 2 = .ok (.if_icmp .lt 8, 3) := by decide +kernel
theorem dX6_demandWithin_5 : decode cX6_demandWithin 5 = .ok (.iload_n 0, 1) := by decide +kernel
theorem dX6_demandWithin_6 : decode cX6_demandWithin 6 = .ok (.iload_n 2, 1) := by decide +kernel
theorem dX6_demandWithin_7 : decode cX6_demandWithin 7 = .ok (.if_icmp .le 13, 3) := by decide +kernel
theorem dX6_demandWithin_10 : decode cX6_demandWithin 10 = .ok (.new 180, 3) := by decide +kernel
theorem dX6_demandWithin_13 : decode cX6_demandWithin 13 = .ok (.dup, 1) := by decide +kernel
theorem dX6_demandWithin_14 : decode cX6_demandWithin 14 = .ok (.ldc 182, 2) := by decide +kernel
theorem dX6_demandWithin_16 : decode cX6_demandWithin 16 = .ok (.invokespecial 184, 3) := by decide +kernel
theorem dX6_demandWithin_19 : decode cX6_demandWithin 19 = .ok (.athrow, 1) := by decide +kernel
theorem dX6_demandWithin_20 : decode cX6_demandWithin 20 = .ok (.return_, 1) := by decide +kernel
set_option maxRecDepth 20000 in
theorem ggX6_demandDay_X6_demandWithin : GoodIn wsX6_demandDay wsX6_demandWithin := goodIn_ca (goodIn_r _ [4, 5, 6] (by decide +kernel) (by decide +kernel)) (goodIn_sub (fun _ h => List.mem_cons_of_mem _ (List.mem_append_right _ h)) (by decide +kernel))
set_option maxRecDepth 20000 in
theorem gX6_demandDay_X6_demandWithin : GoodIn wsX6_demandDay (va_wsS RX6 44 yX6_demandWithin wsX6_demandWithin) := goodIn_app (goodIn_of _ (by decide +kernel)) ggX6_demandDay_X6_demandWithin
theorem dX6_demandDay_0 : decode cX6_demandDay 0 = .ok (.iload_n 0, 1) := by decide +kernel
theorem dX6_demandDay_1 : decode cX6_demandDay 1 = .ok (.iconst 0, 1) := by decide +kernel
theorem dX6_demandDay_2 : decode cX6_demandDay 2 = .ok (.sipush 364, 3) := by decide +kernel
theorem dX6_demandDay_5 : decode cX6_demandDay 5 = .ok (.invokestatic 44, 3) := by decide +kernel
theorem dX6_demandDay_8 : decode cX6_demandDay 8 = .ok (.return_, 1) := by decide +kernel
set_option maxRecDepth 20000 in
theorem ggX6_demandKnown_X6_demandWithin : GoodIn wsX6_demandKnown wsX6_demandWithin := goodIn_ca (goodIn_r _ [5, 6, 7] (by decide +kernel) (by decide +kernel)) (goodIn_sub (fun _ h => List.mem_cons_of_mem _ (List.mem_append_right _ h)) (by decide +kernel))
set_option maxRecDepth 20000 in
theorem gX6_demandKnown_X6_demandWithin : GoodIn wsX6_demandKnown (va_wsS RX6 44 yX6_demandWithin wsX6_demandWithin) := goodIn_app (goodIn_of _ (by decide +kernel)) ggX6_demandKnown_X6_demandWithin
theorem dX6_demandKnown_0 : decode cX6_demandKnown 0 = .ok (.iload_n 1, 1) := by decide +kernel
theorem dX6_demandKnown_1 : decode cX6_demandKnown 1 = .ok (.iconst 0, 1) := by decide +kernel
theorem dX6_demandKnown_2 : decode cX6_demandKnown 2 = .ok (.aload_n 0, 1) := by decide +kernel
theorem dX6_demandKnown_3 : decode cX6_demandKnown 3 = .ok (.getfield 40, 3) := by decide +kernel
theorem dX6_demandKnown_6 : decode cX6_demandKnown 6 = .ok (.invokestatic 44, 3) := by decide +kernel
theorem dX6_demandKnown_9 : decode cX6_demandKnown 9 = .ok (.return_, 1) := by decide +kernel
set_option maxRecDepth 20000 in
theorem ggX6_demandField_X6_isField : GoodIn wsX6_demandField wsX6_isField := goodIn_r _ [6] (by decide +kernel) (by decide +kernel)
set_option maxRecDepth 20000 in
theorem gX6_demandField_X6_isField : GoodIn wsX6_demandField (va_wsS RX6 185 yX6_isField wsX6_isField) := goodIn_app (goodIn_of _ (by decide +kernel)) ggX6_demandField_X6_isField
theorem dX6_demandField_0 : decode cX6_demandField 0 = .ok (.iload_n 0, 1) := by decide +kernel
theorem dX6_demandField_1 : decode cX6_demandField 1 = .ok (.invokestatic 185, 3) := by decide +kernel
theorem dX6_demandField_4 : decode cX6_demandField 4 = .ok (.ifCond .ne 13, 3) := by decide +kernel
theorem dX6_demandField_7 : decode cX6_demandField 7 = .ok (.new 188, 3) := by decide +kernel
theorem dX6_demandField_10 : decode cX6_demandField 10 = .ok (.dup, 1) := by decide +kernel
theorem dX6_demandField_11 : decode cX6_demandField 11 = .ok (.ldc 190, 2) := by decide +kernel
theorem dX6_demandField_13 : decode cX6_demandField 13 = .ok (.invokespecial 192, 3) := by decide +kernel
theorem dX6_demandField_16 : decode cX6_demandField 16 = .ok (.athrow, 1) := by decide +kernel
theorem dX6_demandField_17 : decode cX6_demandField 17 = .ok (.return_, 1) := by decide +kernel
theorem dX6_isField_0 : decode cX6_isField 0 = .ok (.iload_n 0, 1) := by decide +kernel
theorem dX6_isField_1 : decode cX6_isField 1 = .ok (.ifCond .lt 12, 3) := by decide +kernel
theorem dX6_isField_4 : decode cX6_isField 4 = .ok (.iload_n 0, 1) := by decide +kernel
theorem dX6_isField_5 : decode cX6_isField 5 = .ok (.iconst 3, 1) := by decide +kernel
theorem dX6_isField_6 : decode cX6_isField 6 = .ok (.if_icmp .ge 7, 3) := by decide +kernel
theorem dX6_isField_9 : decode cX6_isField 9 = .ok (.iconst 1, 1) := by decide +kernel
theorem dX6_isField_10 : decode cX6_isField 10 = .ok (.goto 4, 3) := by decide +kernel
theorem dX6_isField_13 : decode cX6_isField 13 = .ok (.iconst 0, 1) := by decide +kernel
theorem dX6_isField_14 : decode cX6_isField 14 = .ok (.ireturn, 1) := by decide +kernel
theorem dX6_isDay_0 : decode cX6_isDay 0 = .ok (.iload_n 0, 1) := by decide +kernel
theorem dX6_isDay_1 : decode cX6_isDay 1 = .ok (.ifCond .lt 14, 3) := by decide +kernel
theorem dX6_isDay_4 : decode cX6_isDay 4 = .ok (.iload_n 0, 1) := by decide +kernel
theorem dX6_isDay_5 : decode cX6_isDay 5 = .ok (.sipush 365, 3) := by decide +kernel
theorem dX6_isDay_8 : decode cX6_isDay 8 = .ok (.if_icmp .ge 7, 3) := by decide +kernel
theorem dX6_isDay_11 : decode cX6_isDay 11 = .ok (.iconst 1, 1) := by decide +kernel
theorem dX6_isDay_12 : decode cX6_isDay 12 = .ok (.goto 4, 3) := by decide +kernel
theorem dX6_isDay_15 : decode cX6_isDay 15 = .ok (.iconst 0, 1) := by decide +kernel
theorem dX6_isDay_16 : decode cX6_isDay 16 = .ok (.ireturn, 1) := by decide +kernel
set_option maxRecDepth 20000 in
theorem ggX6_policyNumbered_Jx4a65c_size_8abf5 : GoodIn wsX6_policyNumbered wsJx4a65c_size_8abf5 := goodIn_r _ [9, 10, 34, 35, 36] (by decide +kernel) (by decide +kernel)
set_option maxRecDepth 20000 in
theorem gX6_policyNumbered_Jx4a65c_size_8abf5_f48Jx4a65c : GoodIn wsX6_policyNumbered (va_wsF RX6 48 RJx4a65c ⟨"java/util/List", "size", "()I"⟩ yJx4a65c_size_8abf5 wsJx4a65c_size_8abf5) := goodIn_app (goodIn_of _ (by decide +kernel)) ggX6_policyNumbered_Jx4a65c_size_8abf5
set_option maxRecDepth 20000 in
theorem ggX6_policyNumbered_Jx4a65c_get_915e3 : GoodIn wsX6_policyNumbered wsJx4a65c_get_915e3 := goodIn_r _ [14, 10, 15, 16, 17, 18, 19, 20, 21, 22, 23, 24, 25, 8, 26, 27, 34, 35, 36] (by decide +kernel) (by decide +kernel)
set_option maxRecDepth 20000 in
theorem gX6_policyNumbered_Jx4a65c_get_915e3_f127Jx4a65c : GoodIn wsX6_policyNumbered (va_wsF RX6 127 RJx4a65c ⟨"java/util/List", "get", "(I)Ljava/lang/Object;"⟩ yJx4a65c_get_915e3 wsJx4a65c_get_915e3) := goodIn_app (goodIn_of _ (by decide +kernel)) ggX6_policyNumbered_Jx4a65c_get_915e3
theorem dX6_policyNumbered_0 : decode cX6_policyNumbered 0 = .ok (.iload_n 1, 1) := by decide +kernel
theorem dX6_policyNumbered_1 : decode cX6_policyNumbered 1 = .ok (.ifCond .lt 16, 3) := by decide +kernel
theorem dX6_policyNumbered_4 : decode cX6_policyNumbered 4 = .ok (.iload_n 1, 1) := by decide +kernel
theorem dX6_policyNumbered_5 : decode cX6_policyNumbered 5 = .ok (.aload_n 0, 1) := by decide +kernel
theorem dX6_policyNumbered_6 : decode cX6_policyNumbered 6 = .ok (.getfield 10, 3) := by decide +kernel
theorem dX6_policyNumbered_9 : decode cX6_policyNumbered 9 = .ok (.invokeinterface 48 1, 5) := by decide +kernel
theorem dX6_policyNumbered_14 : decode cX6_policyNumbered 14 = .ok (.if_icmp .lt 13, 3) := by decide +kernel
theorem dX6_policyNumbered_17 : decode cX6_policyNumbered 17 = .ok (.new 188, 3) := by decide +kernel
theorem dX6_policyNumbered_20 : decode cX6_policyNumbered 20 = .ok (.dup, 1) := by decide +kernel
theorem dX6_policyNumbered_21 : decode cX6_policyNumbered 21 = .ok (.ldc 193, 2) := by decide +kernel
theorem dX6_policyNumbered_23 : decode cX6_policyNumbered 23 = .ok (.invokespecial 192, 3) := by decide +kernel
theorem dX6_policyNumbered_26 : decode cX6_policyNumbered 26 = .ok (.athrow, 1) := by decide +kernel
theorem dX6_policyNumbered_27 : decode cX6_policyNumbered 27 = .ok (.aload_n 0, 1) := by decide +kernel
theorem dX6_policyNumbered_28 : decode cX6_policyNumbered 28 = .ok (.getfield 10, 3) := by decide +kernel
theorem dX6_policyNumbered_31 : decode cX6_policyNumbered 31 = .ok (.iload_n 1, 1) := by decide +kernel
theorem dX6_policyNumbered_32 : decode cX6_policyNumbered 32 = .ok (.invokeinterface 127 2, 5) := by decide +kernel
theorem dX6_policyNumbered_37 : decode cX6_policyNumbered 37 = .ok (.checkcast 61, 3) := by decide +kernel
theorem dX6_policyNumbered_40 : decode cX6_policyNumbered 40 = .ok (.areturn, 1) := by decide +kernel
set_option maxRecDepth 20000 in
theorem ggX6_changeNumbered_Jx4a65c_size_8abf5 : GoodIn wsX6_changeNumbered wsJx4a65c_size_8abf5 := goodIn_r _ [9, 10, 34, 35, 36] (by decide +kernel) (by decide +kernel)
set_option maxRecDepth 20000 in
theorem gX6_changeNumbered_Jx4a65c_size_8abf5_f48Jx4a65c : GoodIn wsX6_changeNumbered (va_wsF RX6 48 RJx4a65c ⟨"java/util/List", "size", "()I"⟩ yJx4a65c_size_8abf5 wsJx4a65c_size_8abf5) := goodIn_app (goodIn_of _ (by decide +kernel)) ggX6_changeNumbered_Jx4a65c_size_8abf5
set_option maxRecDepth 20000 in
theorem ggX6_changeNumbered_Jx4a65c_get_915e3 : GoodIn wsX6_changeNumbered wsJx4a65c_get_915e3 := goodIn_r _ [14, 10, 15, 16, 17, 18, 19, 20, 21, 22, 23, 24, 25, 8, 26, 27, 34, 35, 36] (by decide +kernel) (by decide +kernel)
set_option maxRecDepth 20000 in
theorem gX6_changeNumbered_Jx4a65c_get_915e3_f127Jx4a65c : GoodIn wsX6_changeNumbered (va_wsF RX6 127 RJx4a65c ⟨"java/util/List", "get", "(I)Ljava/lang/Object;"⟩ yJx4a65c_get_915e3 wsJx4a65c_get_915e3) := goodIn_app (goodIn_of _ (by decide +kernel)) ggX6_changeNumbered_Jx4a65c_get_915e3
theorem dX6_changeNumbered_0 : decode cX6_changeNumbered 0 = .ok (.iload_n 1, 1) := by decide +kernel
theorem dX6_changeNumbered_1 : decode cX6_changeNumbered 1 = .ok (.ifCond .lt 16, 3) := by decide +kernel
theorem dX6_changeNumbered_4 : decode cX6_changeNumbered 4 = .ok (.iload_n 1, 1) := by decide +kernel
theorem dX6_changeNumbered_5 : decode cX6_changeNumbered 5 = .ok (.aload_n 0, 1) := by decide +kernel
theorem dX6_changeNumbered_6 : decode cX6_changeNumbered 6 = .ok (.getfield 16, 3) := by decide +kernel
theorem dX6_changeNumbered_9 : decode cX6_changeNumbered 9 = .ok (.invokeinterface 48 1, 5) := by decide +kernel
theorem dX6_changeNumbered_14 : decode cX6_changeNumbered 14 = .ok (.if_icmp .lt 13, 3) := by decide +kernel
theorem dX6_changeNumbered_17 : decode cX6_changeNumbered 17 = .ok (.new 188, 3) := by decide +kernel
theorem dX6_changeNumbered_20 : decode cX6_changeNumbered 20 = .ok (.dup, 1) := by decide +kernel
theorem dX6_changeNumbered_21 : decode cX6_changeNumbered 21 = .ok (.ldc 195, 2) := by decide +kernel
theorem dX6_changeNumbered_23 : decode cX6_changeNumbered 23 = .ok (.invokespecial 192, 3) := by decide +kernel
theorem dX6_changeNumbered_26 : decode cX6_changeNumbered 26 = .ok (.athrow, 1) := by decide +kernel
theorem dX6_changeNumbered_27 : decode cX6_changeNumbered 27 = .ok (.aload_n 0, 1) := by decide +kernel
theorem dX6_changeNumbered_28 : decode cX6_changeNumbered 28 = .ok (.getfield 16, 3) := by decide +kernel
theorem dX6_changeNumbered_31 : decode cX6_changeNumbered 31 = .ok (.iload_n 1, 1) := by decide +kernel
theorem dX6_changeNumbered_32 : decode cX6_changeNumbered 32 = .ok (.invokeinterface 127 2, 5) := by decide +kernel
theorem dX6_changeNumbered_37 : decode cX6_changeNumbered 37 = .ok (.checkcast 111, 3) := by decide +kernel
theorem dX6_changeNumbered_40 : decode cX6_changeNumbered 40 = .ok (.areturn, 1) := by decide +kernel
set_option maxRecDepth 20000 in
theorem ggX6_tell_Jx4a65c_size_8abf5 : GoodIn wsX6_tell wsJx4a65c_size_8abf5 := goodIn_r _ [13, 14, 131, 132, 133] (by decide +kernel) (by decide +kernel)
set_option maxRecDepth 20000 in
theorem gX6_tell_Jx4a65c_size_8abf5_f48Jx4a65c : GoodIn wsX6_tell (va_wsF RX6 48 RJx4a65c ⟨"java/util/List", "size", "()I"⟩ yJx4a65c_size_8abf5 wsJx4a65c_size_8abf5) := goodIn_app (goodIn_of _ (by decide +kernel)) ggX6_tell_Jx4a65c_size_8abf5
set_option maxRecDepth 20000 in
theorem ggX6_tell_X0_init : GoodIn wsX6_tell wsX0_init := goodIn_r _ [17, 18, 19, 20, 21, 22, 23, 24, 25, 26, 27, 28, 123, 124, 125, 126, 127, 128, 129, 130] (by decide +kernel) (by decide +kernel)
set_option maxRecDepth 20000 in
theorem gX6_tell_X0_init : GoodIn wsX6_tell (wsX0_init) := ggX6_tell_X0_init
set_option maxRecDepth 20000 in
theorem ggX6_tell_Jx4a65c_add_9ea2d : GoodIn wsX6_tell wsJx4a65c_add_9ea2d := goodIn_r _ [32, 33, 34, 35, 14, 36, 37, 38, 12, 39, 40, 41, 42, 43, 44, 45, 46, 47, 48, 49, 50, 51, 52, 53, 54, 55, 56, 57, 58, 59, 60, 61, 62, 63, 64, 65, 66, 67, 68, 69, 70, 71, 72, 73, 74, 75, 76, 77, 78, 79, 80, 81, 82, 131, 132, 133] (by decide +kernel) (by decide +kernel)
set_option maxRecDepth 20000 in
theorem gX6_tell_Jx4a65c_add_9ea2d_f66Jx4a65c : GoodIn wsX6_tell (va_wsF RX6 66 RJx4a65c ⟨"java/util/List", "add", "(Ljava/lang/Object;)Z"⟩ yJx4a65c_add_9ea2d wsJx4a65c_add_9ea2d) := goodIn_app (goodIn_of _ (by decide +kernel)) ggX6_tell_Jx4a65c_add_9ea2d
set_option maxRecDepth 20000 in
theorem ggX6_tell_X2_putInOrder : GoodIn wsX6_tell wsX2_putInOrder := goodIn_r _ [87, 88, 89, 90, 91, 10, 11, 12, 13, 14, 92, 93, 94, 95, 96, 97, 98, 99, 100, 101, 102, 103, 104, 105, 106, 107, 35, 108, 109, 110, 111, 33, 34, 112, 80, 81, 82, 113, 114, 115, 116, 40, 41, 42, 43, 44, 45, 46, 47, 48, 49, 50, 51, 52, 53, 54, 55, 56, 57, 58, 59, 60, 61, 62, 63, 64, 65, 66, 67, 68, 69, 70, 71, 72, 73, 74, 75, 76, 77, 78, 79, 134, 135, 136, 123, 124, 125, 126, 127, 128, 129, 130, 131, 132, 133] (by decide +kernel) (by decide +kernel)
set_option maxRecDepth 20000 in
theorem gX6_tell_X2_putInOrder : GoodIn wsX6_tell (wsV RX6 202 RX2 yX2_putInOrder wsX2_putInOrder) := goodIn_app (goodIn_of _ (by decide +kernel)) ggX6_tell_X2_putInOrder
theorem dX6_tell_0 : decode cX6_tell 0 = .ok (.aload_n 0, 1) := by decide +kernel
theorem dX6_tell_1 : decode cX6_tell 1 = .ok (.getfield 16, 3) := by decide +kernel
theorem dX6_tell_4 : decode cX6_tell 4 = .ok (.invokeinterface 48 1, 5) := by decide +kernel
theorem dX6_tell_9 : decode cX6_tell 9 = .ok (.bipush 60, 2) := by decide +kernel
theorem dX6_tell_11 : decode cX6_tell 11 = .ok (.if_icmp .lt 13, 3) := by decide +kernel
theorem dX6_tell_14 : decode cX6_tell 14 = .ok (.new 54, 3) := by decide +kernel
theorem dX6_tell_17 : decode cX6_tell 17 = .ok (.dup, 1) := by decide +kernel
theorem dX6_tell_18 : decode cX6_tell 18 = .ok (.ldc 197, 2) := by decide +kernel
theorem dX6_tell_20 : decode cX6_tell 20 = .ok (.invokespecial 58, 3) := by decide +kernel
theorem dX6_tell_23 : decode cX6_tell 23 = .ok (.athrow, 1) := by decide +kernel
theorem dX6_tell_24 : decode cX6_tell 24 = .ok (.new 111, 3) := by decide +kernel
theorem dX6_tell_27 : decode cX6_tell 27 = .ok (.dup, 1) := by decide +kernel
theorem dX6_tell_28 : decode cX6_tell 28 = .ok (.aload_n 0, 1) := by decide +kernel
theorem dX6_tell_29 : decode cX6_tell 29 = .ok (.getfield 16, 3) := by decide +kernel
theorem dX6_tell_32 : decode cX6_tell 32 = .ok (.invokeinterface 48 1, 5) := by decide +kernel
theorem dX6_tell_37 : decode cX6_tell 37 = .ok (.aload_n 1, 1) := by decide +kernel
theorem dX6_tell_38 : decode cX6_tell 38 = .ok (.aload_n 2, 1) := by decide +kernel
theorem dX6_tell_39 : decode cX6_tell 39 = .ok (.iload_n 3, 1) := by decide +kernel
theorem dX6_tell_40 : decode cX6_tell 40 = .ok (.iload 4, 2) := by decide +kernel
theorem dX6_tell_42 : decode cX6_tell 42 = .ok (.iload 5, 2) := by decide +kernel
theorem dX6_tell_44 : decode cX6_tell 44 = .ok (.aload_n 0, 1) := by decide +kernel
theorem dX6_tell_45 : decode cX6_tell 45 = .ok (.getfield 40, 3) := by decide +kernel
theorem dX6_tell_48 : decode cX6_tell 48 = .ok (.invokespecial 199, 3) := by decide +kernel
theorem dX6_tell_51 : decode cX6_tell 51 = .ok (.astore 6, 2) := by decide +kernel
theorem dX6_tell_53 : decode cX6_tell 53 = .ok (.aload_n 0, 1) := by decide +kernel
theorem dX6_tell_54 : decode cX6_tell 54 = .ok (.getfield 16, 3) := by decide +kernel
theorem dX6_tell_57 : decode cX6_tell 57 = .ok (.aload 6, 2) := by decide +kernel
theorem dX6_tell_59 : decode cX6_tell 59 = .ok (.invokeinterface 66 2, 5) := by decide +kernel
theorem dX6_tell_64 : decode cX6_tell 64 = .ok (.pop, 1) := by decide +kernel
theorem dX6_tell_65 : decode cX6_tell 65 = .ok (.aload_n 1, 1) := by decide +kernel
theorem dX6_tell_66 : decode cX6_tell 66 = .ok (.aload 6, 2) := by decide +kernel
theorem dX6_tell_68 : decode cX6_tell 68 = .ok (.invokevirtual 202, 3) := by decide +kernel
theorem dX6_tell_71 : decode cX6_tell 71 = .ok (.aload 6, 2) := by decide +kernel
theorem dX6_tell_73 : decode cX6_tell 73 = .ok (.getfield 131, 3) := by decide +kernel
theorem dX6_tell_76 : decode cX6_tell 76 = .ok (.ireturn, 1) := by decide +kernel
set_option maxRecDepth 20000 in
theorem ggX6_layVersion_X4_begin : GoodIn wsX6_layVersion wsX4_begin := goodIn_r _ [6, 7, 8, 9, 10, 11, 12, 85, 86] (by decide +kernel) (by decide +kernel)
set_option maxRecDepth 20000 in
theorem gX6_layVersion_X4_begin : GoodIn wsX6_layVersion (wsV RX6 206 RX4 yX4_begin wsX4_begin) := goodIn_app (goodIn_of _ (by decide +kernel)) ggX6_layVersion_X4_begin
set_option maxRecDepth 20000 in
theorem ggX6_layVersion_X6_layInFrom : GoodIn wsX6_layVersion wsX6_layInFrom := goodIn_r _ [17, 18, 19, 20, 21, 22, 23, 24, 1, 25, 26, 27, 28, 29, 30, 31, 32, 33, 34, 35, 36, 37, 38, 39, 40, 41, 42, 43, 44, 45, 46, 47, 48, 49, 50, 51, 52, 53, 54, 55, 56, 57, 5, 58, 59, 60, 61, 62, 63, 64, 65, 66, 67, 68, 8, 69, 70, 71, 72, 7, 73, 16, 74, 75, 76, 77, 78, 87, 88, 89, 90, 91, 92, 93, 94, 95, 96, 97, 79, 80, 81, 82, 83, 84, 98, 99, 100, 85, 86] (by decide +kernel) (by decide +kernel)
set_option maxRecDepth 20000 in
theorem gX6_layVersion_X6_layInFrom : GoodIn wsX6_layVersion (wsV RX6 209 RX6 yX6_layInFrom wsX6_layInFrom) := goodIn_app (goodIn_of _ (by decide +kernel)) ggX6_layVersion_X6_layInFrom
theorem dX6_layVersion_0 : decode cX6_layVersion 0 = .ok (.aload_n 0, 1) := by decide +kernel
theorem dX6_layVersion_1 : decode cX6_layVersion 1 = .ok (.getfield 29, 3) := by decide +kernel
theorem dX6_layVersion_4 : decode cX6_layVersion 4 = .ok (.invokevirtual 206, 3) := by decide +kernel
theorem dX6_layVersion_7 : decode cX6_layVersion 7 = .ok (.aload_n 0, 1) := by decide +kernel
theorem dX6_layVersion_8 : decode cX6_layVersion 8 = .ok (.aload_n 1, 1) := by decide +kernel
theorem dX6_layVersion_9 : decode cX6_layVersion 9 = .ok (.iconst 0, 1) := by decide +kernel
theorem dX6_layVersion_10 : decode cX6_layVersion 10 = .ok (.iload_n 2, 1) := by decide +kernel
theorem dX6_layVersion_11 : decode cX6_layVersion 11 = .ok (.iload_n 3, 1) := by decide +kernel
theorem dX6_layVersion_12 : decode cX6_layVersion 12 = .ok (.invokevirtual 209, 3) := by decide +kernel
theorem dX6_layVersion_15 : decode cX6_layVersion 15 = .ok (.pop, 1) := by decide +kernel
theorem dX6_layVersion_16 : decode cX6_layVersion 16 = .ok (.return_, 1) := by decide +kernel
set_option maxRecDepth 20000 in
theorem ggX6_layInFrom_Jx4a65c_size_8abf5 : GoodIn wsX6_layInFrom wsJx4a65c_size_8abf5 := goodIn_r _ [13, 14, 84, 85, 86] (by decide +kernel) (by decide +kernel)
set_option maxRecDepth 20000 in
theorem gX6_layInFrom_Jx4a65c_size_8abf5_f48Jx4a65c : GoodIn wsX6_layInFrom (va_wsF RX6 48 RJx4a65c ⟨"java/util/List", "size", "()I"⟩ yJx4a65c_size_8abf5 wsJx4a65c_size_8abf5) := goodIn_app (goodIn_of _ (by decide +kernel)) ggX6_layInFrom_Jx4a65c_size_8abf5
set_option maxRecDepth 20000 in
theorem ggX6_layInFrom_Jx4a65c_get_915e3 : GoodIn wsX6_layInFrom wsJx4a65c_get_915e3 := goodIn_r _ [18, 14, 19, 20, 21, 22, 23, 24, 25, 26, 27, 28, 29, 12, 30, 31, 84, 85, 86] (by decide +kernel) (by decide +kernel)
set_option maxRecDepth 20000 in
theorem gX6_layInFrom_Jx4a65c_get_915e3_f127Jx4a65c : GoodIn wsX6_layInFrom (va_wsF RX6 127 RJx4a65c ⟨"java/util/List", "get", "(I)Ljava/lang/Object;"⟩ yJx4a65c_get_915e3 wsJx4a65c_get_915e3) := goodIn_app (goodIn_of _ (by decide +kernel)) ggX6_layInFrom_Jx4a65c_get_915e3
set_option maxRecDepth 20000 in
theorem ggX6_layInFrom_X0_isKnownOn : GoodIn wsX6_layInFrom wsX0_isKnownOn := goodIn_r _ [36, 37, 38, 70, 71, 72, 73, 74, 75, 76, 77] (by decide +kernel) (by decide +kernel)
set_option maxRecDepth 20000 in
theorem gX6_layInFrom_X0_isKnownOn : GoodIn wsX6_layInFrom (wsV RX6 137 RX0 yX0_isKnownOn wsX0_isKnownOn) := goodIn_app (goodIn_of _ (by decide +kernel)) ggX6_layInFrom_X0_isKnownOn
set_option maxRecDepth 20000 in
theorem ggX6_layInFrom_X4_layIn : GoodIn wsX6_layInFrom wsX4_layIn := goodIn_r _ [43, 44, 45, 46, 47, 48, 49, 3, 4, 5, 50, 51, 52, 53, 54, 55, 56, 57, 42, 58, 59, 60, 61, 62, 63, 64, 65, 66, 70, 71, 72, 73, 74, 75, 76, 77, 87, 88] (by decide +kernel) (by decide +kernel)
set_option maxRecDepth 20000 in
theorem gX6_layInFrom_X4_layIn : GoodIn wsX6_layInFrom (wsV RX6 219 RX4 yX4_layIn wsX4_layIn) := goodIn_app (goodIn_of _ (by decide +kernel)) ggX6_layInFrom_X4_layIn
theorem dX6_layInFrom_0 : decode cX6_layInFrom 0 = .ok (.aload_n 1, 1) := by decide +kernel
theorem dX6_layInFrom_1 : decode cX6_layInFrom 1 = .ok (.getfield 124, 3) := by decide +kernel
theorem dX6_layInFrom_4 : decode cX6_layInFrom 4 = .ok (.astore 5, 2) := by decide +kernel
theorem dX6_layInFrom_6 : decode cX6_layInFrom 6 = .ok (.iload_n 2, 1) := by decide +kernel
theorem dX6_layInFrom_7 : decode cX6_layInFrom 7 = .ok (.iconst 0, 1) := by decide +kernel
theorem dX6_layInFrom_8 : decode cX6_layInFrom 8 = .ok (.invokestatic 213, 3) := by decide +kernel
theorem dX6_layInFrom_11 : decode cX6_layInFrom 11 = .ok (.istore 6, 2) := by decide +kernel
theorem dX6_layInFrom_13 : decode cX6_layInFrom 13 = .ok (.iload 6, 2) := by decide +kernel
theorem dX6_layInFrom_15 : decode cX6_layInFrom 15 = .ok (.aload 5, 2) := by decide +kernel
theorem dX6_layInFrom_17 : decode cX6_layInFrom 17 = .ok (.invokeinterface 48 1, 5) := by decide +kernel
theorem dX6_layInFrom_22 : decode cX6_layInFrom 22 = .ok (.if_icmp .ge 61, 3) := by decide +kernel
theorem dX6_layInFrom_25 : decode cX6_layInFrom 25 = .ok (.aload 5, 2) := by decide +kernel
theorem dX6_layInFrom_27 : decode cX6_layInFrom 27 = .ok (.iload 6, 2) := by decide +kernel
theorem dX6_layInFrom_29 : decode cX6_layInFrom 29 = .ok (.invokeinterface 127 2, 5) := by decide +kernel
theorem dX6_layInFrom_34 : decode cX6_layInFrom 34 = .ok (.checkcast 111, 3) := by decide +kernel
theorem dX6_layInFrom_37 : decode cX6_layInFrom 37 = .ok (.getfield 134, 3) := by decide +kernel
theorem dX6_layInFrom_40 : decode cX6_layInFrom 40 = .ok (.iload_n 3, 1) := by decide +kernel
theorem dX6_layInFrom_41 : decode cX6_layInFrom 41 = .ok (.if_icmp .gt 42, 3) := by decide +kernel
theorem dX6_layInFrom_44 : decode cX6_layInFrom 44 = .ok (.aload 5, 2) := by decide +kernel
theorem dX6_layInFrom_46 : decode cX6_layInFrom 46 = .ok (.iload 6, 2) := by decide +kernel
theorem dX6_layInFrom_48 : decode cX6_layInFrom 48 = .ok (.invokeinterface 127 2, 5) := by decide +kernel
theorem dX6_layInFrom_53 : decode cX6_layInFrom 53 = .ok (.checkcast 111, 3) := by decide +kernel
theorem dX6_layInFrom_56 : decode cX6_layInFrom 56 = .ok (.astore 7, 2) := by decide +kernel
theorem dX6_layInFrom_58 : decode cX6_layInFrom 58 = .ok (.aload 7, 2) := by decide +kernel
theorem dX6_layInFrom_60 : decode cX6_layInFrom 60 = .ok (.iload 4, 2) := by decide +kernel
theorem dX6_layInFrom_62 : decode cX6_layInFrom 62 = .ok (.invokevirtual 137, 3) := by decide +kernel
theorem dX6_layInFrom_65 : decode cX6_layInFrom 65 = .ok (.ifCond .eq 12, 3) := by decide +kernel
theorem dX6_layInFrom_68 : decode cX6_layInFrom 68 = .ok (.aload_n 0, 1) := by decide +kernel
theorem dX6_layInFrom_69 : decode cX6_layInFrom 69 = .ok (.getfield 29, 3) := by decide +kernel
theorem dX6_layInFrom_72 : decode cX6_layInFrom 72 = .ok (.aload 7, 2) := by decide +kernel
theorem dX6_layInFrom_74 : decode cX6_layInFrom 74 = .ok (.invokevirtual 219, 3) := by decide +kernel
theorem dX6_layInFrom_77 : decode cX6_layInFrom 77 = .ok (.iinc 6 1, 3) := by decide +kernel
theorem dX6_layInFrom_80 : decode cX6_layInFrom 80 = .ok (.goto (-67), 3) := by decide +kernel
theorem dX6_layInFrom_83 : decode cX6_layInFrom 83 = .ok (.iload 6, 2) := by decide +kernel
theorem dX6_layInFrom_85 : decode cX6_layInFrom 85 = .ok (.ireturn, 1) := by decide +kernel
set_option maxRecDepth 20000 in
theorem ggX6_rateOfVersion_X4_valueOf : GoodIn wsX6_rateOfVersion wsX4_valueOf := goodIn_r _ [9, 10, 11, 12, 13, 28, 29] (by decide +kernel) (by decide +kernel)
set_option maxRecDepth 20000 in
theorem gX6_rateOfVersion_X4_valueOf : GoodIn wsX6_rateOfVersion (wsV RX6 148 RX4 yX4_valueOf wsX4_valueOf) := goodIn_app (goodIn_of _ (by decide +kernel)) ggX6_rateOfVersion_X4_valueOf
set_option maxRecDepth 20000 in
theorem ggX6_rateOfVersion_X3_weightOn : GoodIn wsX6_rateOfVersion wsX3_weightOn := goodIn_r _ [18, 19, 11, 12, 13, 20, 21, 33, 34, 35] (by decide +kernel) (by decide +kernel)
set_option maxRecDepth 20000 in
theorem gX6_rateOfVersion_X3_weightOn : GoodIn wsX6_rateOfVersion (wsV RX6 225 RX3 yX3_weightOn wsX3_weightOn) := goodIn_app (goodIn_of _ (by decide +kernel)) ggX6_rateOfVersion_X3_weightOn
theorem dX6_rateOfVersion_0 : decode cX6_rateOfVersion 0 = .ok (.aload_n 0, 1) := by decide +kernel
theorem dX6_rateOfVersion_1 : decode cX6_rateOfVersion 1 = .ok (.getfield 29, 3) := by decide +kernel
theorem dX6_rateOfVersion_4 : decode cX6_rateOfVersion 4 = .ok (.getfield 152, 3) := by decide +kernel
theorem dX6_rateOfVersion_7 : decode cX6_rateOfVersion 7 = .ok (.ifCond .ne 5, 3) := by decide +kernel
theorem dX6_rateOfVersion_10 : decode cX6_rateOfVersion 10 = .ok (.iconst 0, 1) := by decide +kernel
theorem dX6_rateOfVersion_11 : decode cX6_rateOfVersion 11 = .ok (.ireturn, 1) := by decide +kernel
theorem dX6_rateOfVersion_12 : decode cX6_rateOfVersion 12 = .ok (.aload_n 1, 1) := by decide +kernel
theorem dX6_rateOfVersion_13 : decode cX6_rateOfVersion 13 = .ok (.getfield 222, 3) := by decide +kernel
theorem dX6_rateOfVersion_16 : decode cX6_rateOfVersion 16 = .ok (.istore_n 3, 1) := by decide +kernel
theorem dX6_rateOfVersion_17 : decode cX6_rateOfVersion 17 = .ok (.iconst 0, 1) := by decide +kernel
theorem dX6_rateOfVersion_18 : decode cX6_rateOfVersion 18 = .ok (.istore 4, 2) := by decide +kernel
theorem dX6_rateOfVersion_20 : decode cX6_rateOfVersion 20 = .ok (.iload 4, 2) := by decide +kernel
theorem dX6_rateOfVersion_22 : decode cX6_rateOfVersion 22 = .ok (.iconst 3, 1) := by decide +kernel
theorem dX6_rateOfVersion_23 : decode cX6_rateOfVersion 23 = .ok (.if_icmp .ge 32, 3) := by decide +kernel
theorem dX6_rateOfVersion_26 : decode cX6_rateOfVersion 26 = .ok (.iload_n 3, 1) := by decide +kernel
theorem dX6_rateOfVersion_27 : decode cX6_rateOfVersion 27 = .ok (.aload_n 0, 1) := by decide +kernel
theorem dX6_rateOfVersion_28 : decode cX6_rateOfVersion 28 = .ok (.getfield 29, 3) := by decide +kernel
theorem dX6_rateOfVersion_31 : decode cX6_rateOfVersion 31 = .ok (.iload 4, 2) := by decide +kernel
theorem dX6_rateOfVersion_33 : decode cX6_rateOfVersion 33 = .ok (.invokevirtual 148, 3) := by decide +kernel
theorem dX6_rateOfVersion_36 : decode cX6_rateOfVersion 36 = .ok (.aload_n 0, 1) := by decide +kernel
theorem dX6_rateOfVersion_37 : decode cX6_rateOfVersion 37 = .ok (.getfield 22, 3) := by decide +kernel
theorem dX6_rateOfVersion_40 : decode cX6_rateOfVersion 40 = .ok (.iload 4, 2) := by decide +kernel
theorem dX6_rateOfVersion_42 : decode cX6_rateOfVersion 42 = .ok (.iload_n 2, 1) := by decide +kernel
theorem dX6_rateOfVersion_43 : decode cX6_rateOfVersion 43 = .ok (.invokevirtual 225, 3) := by decide +kernel
theorem dX6_rateOfVersion_46 : decode cX6_rateOfVersion 46 = .ok (.imul, 1) := by decide +kernel
theorem dX6_rateOfVersion_47 : decode cX6_rateOfVersion 47 = .ok (.iadd, 1) := by decide +kernel
theorem dX6_rateOfVersion_48 : decode cX6_rateOfVersion 48 = .ok (.istore_n 3, 1) := by decide +kernel
theorem dX6_rateOfVersion_49 : decode cX6_rateOfVersion 49 = .ok (.iinc 4 1, 3) := by decide +kernel
theorem dX6_rateOfVersion_52 : decode cX6_rateOfVersion 52 = .ok (.goto (-32), 3) := by decide +kernel
theorem dX6_rateOfVersion_55 : decode cX6_rateOfVersion 55 = .ok (.iload_n 3, 1) := by decide +kernel
theorem dX6_rateOfVersion_56 : decode cX6_rateOfVersion 56 = .ok (.ireturn, 1) := by decide +kernel
set_option maxRecDepth 20000 in
theorem ggX6_layYear_X4_begin : GoodIn wsX6_layYear wsX4_begin := goodIn_r _ [7, 8, 9, 10, 11, 12, 13, 109, 110] (by decide +kernel) (by decide +kernel)
set_option maxRecDepth 20000 in
theorem gX6_layYear_X4_begin : GoodIn wsX6_layYear (wsV RX6 206 RX4 yX4_begin wsX4_begin) := goodIn_app (goodIn_of _ (by decide +kernel)) ggX6_layYear_X4_begin
set_option maxRecDepth 20000 in
theorem ggX6_layYear_X6_layInFrom : GoodIn wsX6_layYear wsX6_layInFrom := goodIn_r _ [18, 19, 20, 21, 22, 23, 24, 25, 1, 26, 27, 28, 29, 30, 31, 32, 33, 34, 35, 36, 37, 38, 39, 40, 41, 42, 43, 44, 45, 46, 47, 48, 49, 50, 51, 52, 53, 54, 55, 56, 57, 58, 6, 59, 60, 61, 62, 63, 64, 65, 66, 67, 68, 69, 9, 70, 71, 72, 73, 8, 74, 17, 75, 76, 77, 78, 79, 111, 112, 113, 114, 115, 116, 117, 118, 119, 120, 121, 103, 104, 105, 106, 107, 108, 122, 123, 124, 109, 110] (by decide +kernel) (by decide +kernel)
set_option maxRecDepth 20000 in
theorem gX6_layYear_X6_layInFrom : GoodIn wsX6_layYear (wsV RX6 209 RX6 yX6_layInFrom wsX6_layInFrom) := goodIn_app (goodIn_of _ (by decide +kernel)) ggX6_layYear_X6_layInFrom
set_option maxRecDepth 20000 in
theorem ggX6_layYear_X6_rateOfVersion : GoodIn wsX6_layYear wsX6_rateOfVersion := goodIn_r _ [83, 1, 84, 85, 86, 87, 77, 78, 6, 79, 8, 74, 17, 75, 88, 89, 90, 91, 92, 93, 94, 95, 103, 104, 105, 106, 107, 108, 109, 110, 111, 112, 113, 125, 126, 127] (by decide +kernel) (by decide +kernel)
set_option maxRecDepth 20000 in
theorem gX6_layYear_X6_rateOfVersion : GoodIn wsX6_layYear (wsV RX6 156 RX6 yX6_rateOfVersion wsX6_rateOfVersion) := goodIn_app (goodIn_of _ (by decide +kernel)) ggX6_layYear_X6_rateOfVersion
set_option maxRecDepth 20000 in
theorem ggX6_layYear_X5_putRate : GoodIn wsX6_layYear wsX5_putRate := goodIn_r _ [100, 101, 102, 94, 17, 95, 128, 129] (by decide +kernel) (by decide +kernel)
set_option maxRecDepth 20000 in
theorem gX6_layYear_X5_putRate : GoodIn wsX6_layYear (wsV RX6 228 RX5 yX5_putRate wsX5_putRate) := goodIn_app (goodIn_of _ (by decide +kernel)) ggX6_layYear_X5_putRate
theorem dX6_layYear_0 : decode cX6_layYear 0 = .ok (.aload_n 0, 1) := by decide +kernel
theorem dX6_layYear_1 : decode cX6_layYear 1 = .ok (.getfield 29, 3) := by decide +kernel
theorem dX6_layYear_4 : decode cX6_layYear 4 = .ok (.invokevirtual 206, 3) := by decide +kernel
theorem dX6_layYear_7 : decode cX6_layYear 7 = .ok (.iconst 0, 1) := by decide +kernel
theorem dX6_layYear_8 : decode cX6_layYear 8 = .ok (.istore_n 3, 1) := by decide +kernel
theorem dX6_layYear_9 : decode cX6_layYear 9 = .ok (.iconst 0, 1) := by decide +kernel
theorem dX6_layYear_10 : decode cX6_layYear 10 = .ok (.istore 4, 2) := by decide +kernel
theorem dX6_layYear_12 : decode cX6_layYear 12 = .ok (.iload 4, 2) := by decide +kernel
theorem dX6_layYear_14 : decode cX6_layYear 14 = .ok (.sipush 365, 3) := by decide +kernel
theorem dX6_layYear_17 : decode cX6_layYear 17 = .ok (.if_icmp .ge 35, 3) := by decide +kernel
theorem dX6_layYear_20 : decode cX6_layYear 20 = .ok (.aload_n 0, 1) := by decide +kernel
theorem dX6_layYear_21 : decode cX6_layYear 21 = .ok (.aload_n 1, 1) := by decide +kernel
theorem dX6_layYear_22 : decode cX6_layYear 22 = .ok (.iload_n 3, 1) := by decide +kernel
theorem dX6_layYear_23 : decode cX6_layYear 23 = .ok (.iload 4, 2) := by decide +kernel
theorem dX6_layYear_25 : decode cX6_layYear 25 = .ok (.iload_n 2, 1) := by decide +kernel
theorem dX6_layYear_26 : decode cX6_layYear 26 = .ok (.invokevirtual 209, 3) := by decide +kernel
theorem dX6_layYear_29 : decode cX6_layYear 29 = .ok (.istore_n 3, 1) := by decide +kernel
theorem dX6_layYear_30 : decode cX6_layYear 30 = .ok (.aload_n 0, 1) := by decide +kernel
theorem dX6_layYear_31 : decode cX6_layYear 31 = .ok (.getfield 36, 3) := by decide +kernel
theorem dX6_layYear_34 : decode cX6_layYear 34 = .ok (.iload 4, 2) := by decide +kernel
theorem dX6_layYear_36 : decode cX6_layYear 36 = .ok (.aload_n 0, 1) := by decide +kernel
theorem dX6_layYear_37 : decode cX6_layYear 37 = .ok (.aload_n 1, 1) := by decide +kernel
theorem dX6_layYear_38 : decode cX6_layYear 38 = .ok (.iload 4, 2) := by decide +kernel
theorem dX6_layYear_40 : decode cX6_layYear 40 = .ok (.invokevirtual 156, 3) := by decide +kernel
theorem dX6_layYear_43 : decode cX6_layYear 43 = .ok (.invokevirtual 228, 3) := by decide +kernel
theorem dX6_layYear_46 : decode cX6_layYear 46 = .ok (.iinc 4 1, 3) := by decide +kernel
theorem dX6_layYear_49 : decode cX6_layYear 49 = .ok (.goto (-37), 3) := by decide +kernel
theorem dX6_layYear_52 : decode cX6_layYear 52 = .ok (.return_, 1) := by decide +kernel
set_option maxRecDepth 20000 in
theorem ggX6_startOfSegment_X6_policyNumbered : GoodIn wsX6_startOfSegment wsX6_policyNumbered := goodIn_ca (goodIn_r _ [8, 1, 2, 9, 10, 11, 12, 13, 14, 15, 16, 17, 18, 19, 20, 21, 22, 23, 24, 25, 26, 27, 28, 29, 30, 31, 32, 33, 123, 124, 125, 126, 127, 128, 129, 130, 131] (by decide +kernel) (by decide +kernel)) (goodIn_sub (fun _ h => List.mem_cons_of_mem _ (List.mem_append_right _ h)) (by decide +kernel))
set_option maxRecDepth 20000 in
theorem gX6_startOfSegment_X6_policyNumbered : GoodIn wsX6_startOfSegment (wsV RX6 84 RX6 yX6_policyNumbered wsX6_policyNumbered) := goodIn_app (goodIn_of _ (by decide +kernel)) ggX6_startOfSegment_X6_policyNumbered
set_option maxRecDepth 20000 in
theorem ggX6_startOfSegment_X6_layYear : GoodIn wsX6_startOfSegment wsX6_layYear := goodIn_r _ [37, 38, 3, 39, 40, 41, 42, 43, 44, 45, 46, 47, 48, 49, 50, 51, 52, 7, 53, 54, 55, 56, 57, 58, 59, 60, 11, 12, 13, 14, 15, 16, 17, 18, 19, 20, 21, 22, 23, 24, 25, 26, 27, 28, 29, 30, 31, 32, 33, 61, 62, 63, 64, 65, 66, 67, 68, 69, 70, 71, 72, 73, 74, 75, 76, 77, 78, 79, 80, 81, 82, 83, 84, 85, 86, 87, 88, 89, 90, 91, 92, 93, 94, 95, 96, 97, 98, 99, 100, 101, 102, 103, 104, 105, 106, 107, 108, 109, 110, 111, 112, 113, 114, 123, 124, 125, 126, 127, 128, 132, 133, 134, 135, 136, 137, 138, 139, 140, 141, 142, 143, 144, 129, 130, 131, 145, 146, 147, 148, 149] (by decide +kernel) (by decide +kernel)
set_option maxRecDepth 20000 in
theorem gX6_startOfSegment_X6_layYear : GoodIn wsX6_startOfSegment (wsV RX6 160 RX6 yX6_layYear wsX6_layYear) := goodIn_app (goodIn_of _ (by decide +kernel)) ggX6_startOfSegment_X6_layYear
set_option maxRecDepth 20000 in
theorem ggX6_startOfSegment_X5_startOf : GoodIn wsX6_startOfSegment wsX5_startOf := goodIn_r _ [118, 119, 120, 121, 111, 122, 113, 106, 7, 107, 148, 149] (by decide +kernel) (by decide +kernel)
set_option maxRecDepth 20000 in
theorem gX6_startOfSegment_X5_startOf : GoodIn wsX6_startOfSegment (wsV RX6 232 RX5 yX5_startOf wsX5_startOf) := goodIn_app (goodIn_of _ (by decide +kernel)) ggX6_startOfSegment_X5_startOf
theorem dX6_startOfSegment_0 : decode cX6_startOfSegment 0 = .ok (.aload_n 0, 1) := by decide +kernel
theorem dX6_startOfSegment_1 : decode cX6_startOfSegment 1 = .ok (.aload_n 0, 1) := by decide +kernel
theorem dX6_startOfSegment_2 : decode cX6_startOfSegment 2 = .ok (.iload_n 1, 1) := by decide +kernel
theorem dX6_startOfSegment_3 : decode cX6_startOfSegment 3 = .ok (.invokevirtual 84, 3) := by decide +kernel
theorem dX6_startOfSegment_6 : decode cX6_startOfSegment 6 = .ok (.iload_n 3, 1) := by decide +kernel
theorem dX6_startOfSegment_7 : decode cX6_startOfSegment 7 = .ok (.invokevirtual 160, 3) := by decide +kernel
theorem dX6_startOfSegment_10 : decode cX6_startOfSegment 10 = .ok (.aload_n 0, 1) := by decide +kernel
theorem dX6_startOfSegment_11 : decode cX6_startOfSegment 11 = .ok (.getfield 36, 3) := by decide +kernel
theorem dX6_startOfSegment_14 : decode cX6_startOfSegment 14 = .ok (.iload_n 2, 1) := by decide +kernel
theorem dX6_startOfSegment_15 : decode cX6_startOfSegment 15 = .ok (.invokevirtual 232, 3) := by decide +kernel
theorem dX6_startOfSegment_18 : decode cX6_startOfSegment 18 = .ok (.istore 4, 2) := by decide +kernel
theorem dX6_startOfSegment_20 : decode cX6_startOfSegment 20 = .ok (.iload 4, 2) := by decide +kernel
theorem dX6_startOfSegment_22 : decode cX6_startOfSegment 22 = .ok (.iconst (-1), 1) := by decide +kernel
theorem dX6_startOfSegment_23 : decode cX6_startOfSegment 23 = .ok (.if_icmp .ne 13, 3) := by decide +kernel
theorem dX6_startOfSegment_26 : decode cX6_startOfSegment 26 = .ok (.new 188, 3) := by decide +kernel
theorem dX6_startOfSegment_29 : decode cX6_startOfSegment 29 = .ok (.dup, 1) := by decide +kernel
theorem dX6_startOfSegment_30 : decode cX6_startOfSegment 30 = .ok (.ldc 235, 2) := by decide +kernel
theorem dX6_startOfSegment_32 : decode cX6_startOfSegment 32 = .ok (.invokespecial 192, 3) := by decide +kernel
theorem dX6_startOfSegment_35 : decode cX6_startOfSegment 35 = .ok (.athrow, 1) := by decide +kernel
theorem dX6_startOfSegment_36 : decode cX6_startOfSegment 36 = .ok (.iload 4, 2) := by decide +kernel
theorem dX6_startOfSegment_38 : decode cX6_startOfSegment 38 = .ok (.ireturn, 1) := by decide +kernel
set_option maxRecDepth 20000 in
theorem ggX6_premiumBySegments_X6_layYear : GoodIn wsX6_premiumBySegments wsX6_layYear := goodIn_r _ [6, 7, 1, 8, 9, 10, 11, 12, 13, 14, 15, 16, 17, 18, 19, 20, 21, 5, 22, 23, 24, 25, 26, 27, 28, 29, 30, 31, 32, 33, 34, 35, 36, 37, 38, 39, 40, 41, 42, 43, 44, 45, 46, 47, 48, 49, 50, 51, 52, 53, 54, 55, 56, 57, 58, 59, 60, 61, 62, 63, 64, 65, 66, 67, 68, 69, 70, 71, 72, 73, 74, 75, 76, 77, 78, 79, 80, 81, 82, 83, 84, 85, 86, 87, 88, 89, 90, 91, 92, 93, 94, 95, 96, 97, 98, 99, 100, 101, 102, 103, 104, 105, 106, 127, 128, 129, 130, 131, 132, 133, 134, 135, 136, 137, 138, 139, 140, 141, 142, 143, 144, 145, 146, 147, 148, 149, 150, 151, 152, 153] (by decide +kernel) (by decide +kernel)
set_option maxRecDepth 20000 in
theorem gX6_premiumBySegments_X6_layYear : GoodIn wsX6_premiumBySegments (wsV RX6 160 RX6 yX6_layYear wsX6_layYear) := goodIn_app (goodIn_of _ (by decide +kernel)) ggX6_premiumBySegments_X6_layYear
set_option maxRecDepth 20000 in
theorem ggX6_premiumBySegments_X5_sumOfPremiums : GoodIn wsX6_premiumBySegments wsX5_sumOfPremiums := goodIn_r _ [110, 111, 112, 113, 103, 114, 105, 98, 5, 99, 115, 116, 117, 118, 119, 120, 121, 122, 123, 124, 125, 126, 106, 152, 153] (by decide +kernel) (by decide +kernel)
set_option maxRecDepth 20000 in
theorem gX6_premiumBySegments_X5_sumOfPremiums : GoodIn wsX6_premiumBySegments (wsV RX6 237 RX5 yX5_sumOfPremiums wsX5_sumOfPremiums) := goodIn_app (goodIn_of _ (by decide +kernel)) ggX6_premiumBySegments_X5_sumOfPremiums
theorem dX6_premiumBySegments_0 : decode cX6_premiumBySegments 0 = .ok (.aload_n 0, 1) := by decide +kernel
theorem dX6_premiumBySegments_1 : decode cX6_premiumBySegments 1 = .ok (.aload_n 1, 1) := by decide +kernel
theorem dX6_premiumBySegments_2 : decode cX6_premiumBySegments 2 = .ok (.iload_n 2, 1) := by decide +kernel
theorem dX6_premiumBySegments_3 : decode cX6_premiumBySegments 3 = .ok (.invokevirtual 160, 3) := by decide +kernel
theorem dX6_premiumBySegments_6 : decode cX6_premiumBySegments 6 = .ok (.aload_n 0, 1) := by decide +kernel
theorem dX6_premiumBySegments_7 : decode cX6_premiumBySegments 7 = .ok (.getfield 36, 3) := by decide +kernel
theorem dX6_premiumBySegments_10 : decode cX6_premiumBySegments 10 = .ok (.invokevirtual 237, 3) := by decide +kernel
theorem dX6_premiumBySegments_13 : decode cX6_premiumBySegments 13 = .ok (.ireturn, 1) := by decide +kernel
end
section
/-! The pool calculus: the world is (L, f): the addresses and what lies at each; every method gets the whole world of its side. -/
section PLA
abbrev GE : Type := va_G × (Nat → ClassId) × (Nat → Nat)
def tysOf (g : GE) : List (ClassId × FieldType) := [(g.2.1 0, .int), (g.2.1 1, .boolean), (g.2.1 2, .object "java/lang/Object"), (g.2.1 3, .array .int), (g.2.1 4, .long)]
abbrev PE : Type := List Nat × (Nat → va_E)
theorem pu_s {α : Type} {f : Nat → α} {a : Nat} {e : α} : va_up f a e a = e := if_pos rfl
theorem pu_n {α : Type} {f : Nat → α} {a b : Nat} {e e' : α} (h : b ≠ a) (hb : f b = e') : va_up f a e b = e' := (if_neg h).trans hb
theorem pm_ne {f : Nat → va_E} {a b : Nat} {ea eb : va_E} (hb : f b = eb) (ha : f a = ea) (h : eb ≠ ea) : b ≠ a := fun q => h (by rw [← hb, ← ha, q])
def b2i (P : Prop) [Decidable P] : Int32 := if P then 1 else 0
theorem b2i_t {P : Prop} [Decidable P] (h : P) : (1 : Int32) = b2i P := (if_pos h).symm
theorem b2i_f {P : Prop} [Decidable P] (h : ¬ P) : (0 : Int32) = b2i P := (if_neg h).symm
def sx_texts : List (String × Nat × String) := [("Backdater", 56, "there are 4 policies"), ("Backdater", 79, "there are 20 tariffs"), ("Backdater", 115, "the change was taken back"), ("Backdater", 182, "a number is out of range"), ("Backdater", 190, "there is no such field"), ("Backdater", 193, "there is no such policy"), ("Backdater", 195, "there is no such change"), ("Backdater", 197, "there are 60 changes"), ("Backdater", 235, "there is no such segment")]
def sx_nest : List (String × Nat × MethodName) := [(RX6, 28, yX4_init), (RX6, 35, yX5_init), (RX3, 29, yX6_isField), (RX4, 66, yX6_isField), (RX3, 33, yX6_isDay), (RX5, 18, yX6_isDay)]
/-- the constants' cells: they lie outside A -/
def SxH (g : GE) (A : Nat → Prop) (U : State) (H : Heap) : Prop :=
  (va_Z "Backdater$Kind" "SET" "LBackdater$Kind;" (.ref (g.2.2 0)) A U H ∧ va_Z "Backdater$Kind" "ADD" "LBackdater$Kind;" (.ref (g.2.2 1)) A U H ∧ va_Z "Backdater$Kind" "CANCEL" "LBackdater$Kind;" (.ref (g.2.2 2)) A U H ∧ va_Z "Backdater$Kind" "REINSTATE" "LBackdater$Kind;" (.ref (g.2.2 3)) A U H) ∧
  (va_Z "java/util/ArrayList" "DEFAULTCAPACITY_EMPTY_ELEMENTDATA" "[Ljava/lang/Object;" (.ref (g.2.2 4)) A U H ∧ va_T (.object "java/lang/Object") (g.2.2 4) 0 (fun _ => .null) A U H) ∧
  (vx_Zq Bundle.tN "UNASSIGNED_STACK" Bundle.steD A U H ∧ vx_Zq Bundle.tN "SUPPRESSED_SENTINEL" Bundle.listD A U H)
/-- words that are given of the machine, and hold wherever it is warmer -/
def sx_words : List Cond := [.sameField "java/util/ArrayList" "java/util/AbstractList" "modCount" "I"]
def sx_cast : List (String × String) := [("Backdater$Policy", "Backdater$Policy"), ("Backdater$Change", "Backdater$Change"), ("Backdater$Change", "java/lang/Object"), ("Backdater$Policy", "java/lang/Object"), ("java/lang/IllegalArgumentException", "java/lang/IllegalArgumentException"), ("java/lang/IllegalStateException", "java/lang/IllegalStateException"), ("java/lang/IndexOutOfBoundsException", "java/lang/IndexOutOfBoundsException")]
def sx_decl : List MethodName := [⟨"java/lang/RuntimeException", "<init>", "(Ljava/lang/String;)V"⟩, ⟨"java/lang/Exception", "<init>", "(Ljava/lang/String;)V"⟩, ⟨"java/lang/Throwable", "<init>", "(Ljava/lang/String;)V"⟩]
abbrev sx_ng (cls : String) : List Cond := [.castable cls cls, .declares ⟨"java/lang/RuntimeException", "<init>", "(Ljava/lang/String;)V"⟩, .declares ⟨"java/lang/Exception", "<init>", "(Ljava/lang/String;)V"⟩, .declares ⟨"java/lang/Throwable", "<init>", "(Ljava/lang/String;)V"⟩]
def SxU (g : GE) (U : State) : Prop :=
  (∀ q ∈ sx_texts, ∃ a : Nat, vk_R q.1 q.2.1 q.2.2 a U) ∧ (∀ w ∈ sx_words, va_Nw w U) ∧ (∀ q ∈ sx_cast, va_Nw (.castable q.1 q.2) U) ∧ (∀ y ∈ sx_decl, va_Nw (.declares y) U) ∧ (∀ q ∈ sx_nest, va_Nw (.methodLinkNest q.1 q.2.1 q.2.2 "Backdater") U) ∧
  (va_Fw "java/util/ArrayList" ⟨"java/util/List", "size", "()I"⟩ yJx4a65c_size_8abf5 U ∧ va_Fw "java/util/ArrayList" ⟨"java/util/List", "get", "(I)Ljava/lang/Object;"⟩ yJx4a65c_get_915e3 U ∧ va_Fw "java/util/ArrayList" ⟨"java/util/List", "add", "(Ljava/lang/Object;)Z"⟩ yJx4a65c_add_9ea2d U ∧ va_Fw "java/util/ArrayList" ⟨"java/util/List", "add", "(ILjava/lang/Object;)V"⟩ yJx4a65c_add_7a177 U) ∧
  (va_AO "java/lang/Object" U ∧ va_AOA .int U ∧ va_Mi "[Ljava/lang/Object;" (g.2.2 5) U ∧ va_Dc U)
def Sx (g : GE) (A : Nat → Prop) (U : State) (H : Heap) : Prop := SxH g A U H ∧ SxU g U
theorem SxH.moved {g : GE} {A : Nat → Prop} {u U : State} {H : Heap} (hvm : u.vm.Alike U.vm) (h : SxH g A u H) : SxH g A U H :=
  ⟨⟨h.1.1.moved hvm, h.1.2.1.moved hvm, h.1.2.2.1.moved hvm, h.1.2.2.2.moved hvm⟩, ⟨h.2.1.1.moved hvm, h.2.1.2.moved hvm⟩, ⟨h.2.2.1.moved hvm, h.2.2.2.moved hvm⟩⟩
theorem SxH.kept {g : GE} {A : Nat → Prop} {U : State} {H H1 : Heap} (h : SxH g A U H) (hq : ∀ a : Nat, a < H.size → ¬ A a → H1[a]? = H[a]?) : SxH g A U H1 :=
  ⟨⟨h.1.1.kept hq, h.1.2.1.kept hq, h.1.2.2.1.kept hq, h.1.2.2.2.kept hq⟩, ⟨h.2.1.1.kept hq, h.2.1.2.kept hq⟩, ⟨h.2.2.1.kept hq, h.2.2.2.kept hq⟩⟩
theorem SxH.narrow {g : GE} {A B : Nat → Prop} {U : State} {H : Heap} (h : SxH g A U H) (hAB : ∀ q, B q → A q) : SxH g B U H :=
  ⟨⟨h.1.1.narrow hAB, h.1.2.1.narrow hAB, h.1.2.2.1.narrow hAB, h.1.2.2.2.narrow hAB⟩, ⟨h.2.1.1.narrow hAB, h.2.1.2.narrow hAB⟩, ⟨h.2.2.1.narrow hAB, h.2.2.2.narrow hAB⟩⟩
theorem AOA_moved {u U : State} (hvm : u.vm.Alike U.vm) (h : va_AOA .int u) : va_AOA .int U := arrayOver_alikeB hvm h
theorem word_moved {w : Cond} (hw : goodWord w = true) {s U : State} (hW : s.WarmedH U.vm) (h : va_Nw w s) : va_Nw w U := word_at hW (good_of_word hw) h
theorem castable_moved {a b : String} {u U : State} (hvm : u.vm.Alike U.vm) (h : va_Nw (.castable a b) u) : va_Nw (.castable a b) U := by
  obtain ⟨c, t, h1, h2, h3⟩ := Cond.castable_spec h
  have e1 : U.vm.findClass a = some c := by rw [hvm.findClass]; exact h1
  have e2 : U.vm.findClass b = some t := by rw [hvm.findClass]; exact h2
  have e3 : U.vm.assignable c t = true := by rw [hvm.assignable]; exact h3
  simp [va_Nw, Cond.before, Cond.holds, Cond.value, e1, e2, e3]
theorem decl_moved {y : MethodName} {u U : State} (hvm : u.vm.Alike U.vm) (h : va_Nw (.declares y) u) : va_Nw (.declares y) U := by
  have h1 : (Cond.declares y).before #[] (u.setVm U.vm) = true := by
    rw [Cond.declares_setVm hvm]
    exact h
  have e := Cond.onTables_vm (A := #[]) (A' := #[]) (U := u) (U' := U) U.vm (Cond.declares y) rfl
  have hU : U.setVm U.vm = U := rfl
  rw [hU] at e
  unfold va_Nw
  rw [← e]
  exact h1
theorem sx_words_good : ∀ w ∈ sx_words, goodWord w = true := by decide +kernel
theorem SxU.warm {g : GE} {s U : State} (hW : s.WarmedH U.vm) (h : SxU g s) : SxU g U := by
  obtain ⟨h1, h2, h2c, h2d, h3, ⟨f1, f2, f3, f4⟩, k1, k2, k3, k4⟩ := h
  refine ⟨fun q hq => ?_, fun w hw => word_moved (sx_words_good w hw) hW (h2 w hw), fun q hq => castable_moved hW.alike (h2c q hq), fun y hy => decl_moved hW.alike (h2d y hy), fun q hq => (h3 q hq).warmM hW, ⟨f1.moved ⟨by decide +kernel, by decide +kernel⟩ hW.alike, f2.moved ⟨by decide +kernel, by decide +kernel⟩ hW.alike, f3.moved ⟨by decide +kernel, by decide +kernel⟩ hW.alike, f4.moved ⟨by decide +kernel, by decide +kernel⟩ hW.alike⟩, k1.moved hW.alike, AOA_moved hW.alike k2, k3.moved hW.alike, k4.moved hW.alike⟩
  obtain ⟨a, ha⟩ := h1 q hq
  exact ⟨a, ha.warm hW⟩
theorem SxU.same {g : GE} {s U : State} (hv : U.vm = s.vm) (h : SxU g s) : SxU g U := h.warm (by rw [hv]; exact State.WarmedH.refl s)
/-- the world at a point of a method that began at s -/
def PW (g : GE) (A : Nat → Prop) (s : State) (H : Heap) (locs : List Loc) (L : List Nat) (f : Nat → va_E) : Prop :=
  va_K g.1 vwCl (tysOf g) s ∧ va_P g.1 vwCl (va_pl L f) H ∧ va_D A (va_pl L f) ∧ va_S A s.heap H locs ∧ ∀ q : Nat, s.heap.size ≤ q → A q
/-- the world that a contract begins with -/
def Pre (g : GE) (L : List Nat) (f : Nat → va_E) (sz : Nat) (U : State) : Prop :=
  U.heap.size = sz ∧ va_P g.1 vwCl (va_pl L f) U.heap ∧ va_K g.1 vwCl (tysOf g) U ∧ va_D (fun _ => True) (va_pl L f) ∧ Sx g (va_A (va_pl L f) sz) U U.heap
/-- the world that a contract ends with -/
def Bw (g : GE) (A : Nat → Prop) (u : PE) (t : State) : Prop := va_P g.1 vwCl (va_pl u.1 u.2) t.heap ∧ va_K g.1 vwCl (tysOf g) t ∧ va_D A (va_pl u.1 u.2)
def Bx (g : GE) (A : Nat → Prop) (ex : String → PE → Prop) : String → State → State → Prop := vx_X (S := PE) (fun _ => True) (fun E u t => ex E u ∧ Bw g A u t) A
abbrev rmH (h mc ms : Nat) : Room := { frames := 8 * h + 8, cells := mc, slots := ms, locals := 100 * h + 100 }
def Mi (l : Launch) (y : MethodName) (ws : List Cond) (rm : Room) (g : GE) (L : List Nat) (f : Nat → va_E) (av : List Value) (post : Int32 → PE → Prop) (mc ms : Nat) : Prop :=
  ∀ sz : Nat, Met l y ws rm (va_Pc av (Pre g L f sz)) (va_Qi (S := PE) post (Bw g (va_A (va_pl L f) sz)) (va_A (va_pl L f) sz)) mc ms (va_A (va_pl L f) sz)
def Mv (l : Launch) (y : MethodName) (ws : List Cond) (rm : Room) (g : GE) (L : List Nat) (f : Nat → va_E) (av : List Value) (post : PE → Prop) (mc ms : Nat) : Prop :=
  ∀ sz : Nat, Met l y ws rm (va_Pc av (Pre g L f sz)) (va_Qv (S := PE) post (Bw g (va_A (va_pl L f) sz)) (va_A (va_pl L f) sz)) mc ms (va_A (va_pl L f) sz)
def Mq (l : Launch) (y : MethodName) (ws : List Cond) (rm : Room) (g : GE) (L : List Nat) (f : Nat → va_E) (av : List Value) (post : Option Nat → PE → Prop) (mc ms : Nat) : Prop :=
  ∀ sz : Nat, Met l y ws rm (va_Pc av (Pre g L f sz)) (va_Qq (S := PE) post (Bw g (va_A (va_pl L f) sz)) (va_A (va_pl L f) sz)) mc ms (va_A (va_pl L f) sz)
def Xi (l : Launch) (y : MethodName) (ws : List Cond) (rm : Room) (g : GE) (L : List Nat) (f : Nat → va_E) (av : List Value) (post : Int32 → PE → Prop) (ex : String → PE → Prop) (mc ms : Nat) : Prop :=
  ∀ sz : Nat, vx_Met l y ws rm (va_Pc av (Pre g L f sz)) (va_Qi (S := PE) post (Bw g (va_A (va_pl L f) sz)) (va_A (va_pl L f) sz)) (Bx g (va_A (va_pl L f) sz) ex) mc ms (va_A (va_pl L f) sz)
def Xv (l : Launch) (y : MethodName) (ws : List Cond) (rm : Room) (g : GE) (L : List Nat) (f : Nat → va_E) (av : List Value) (post : PE → Prop) (ex : String → PE → Prop) (mc ms : Nat) : Prop :=
  ∀ sz : Nat, vx_Met l y ws rm (va_Pc av (Pre g L f sz)) (va_Qv (S := PE) post (Bw g (va_A (va_pl L f) sz)) (va_A (va_pl L f) sz)) (Bx g (va_A (va_pl L f) sz) ex) mc ms (va_A (va_pl L f) sz)
def Xq (l : Launch) (y : MethodName) (ws : List Cond) (rm : Room) (g : GE) (L : List Nat) (f : Nat → va_E) (av : List Value) (post : Option Nat → PE → Prop) (ex : String → PE → Prop) (mc ms : Nat) : Prop :=
  ∀ sz : Nat, vx_Met l y ws rm (va_Pc av (Pre g L f sz)) (va_Qq (S := PE) post (Bw g (va_A (va_pl L f) sz)) (va_A (va_pl L f) sz)) (Bx g (va_A (va_pl L f) sz) ex) mc ms (va_A (va_pl L f) sz)
variable {p : Program} {l : Launch} {e : Env} {R : Room} {s : State} {m : MethodId} {args : Array Value} {below : List Frame} {meth : Method} {c : Code} {H : Heap} {locs : List Loc} {cells slots : Nat} {Q : State → Prop}
variable {cc : ByteArray} {pc : Nat} {ls : Array Slot} {rest : List Value} {g : GE} {A : Nat → Prop} {L : List Nat} {f : Nat → va_E} {a : Nat} {D : va_G}
theorem pm_k (f : Nat → va_E) (h : a ∈ L) : ∃ k : Nat, (va_pl L f)[k]? = some (a, f a) := va_pl_get (X := []) h
theorem pm_set {e : va_E} {k : Nat} (hD : va_D A (va_pl L f)) (h : a ∈ L) (hk : (va_pl L f)[k]? = some (a, f a)) : (va_pl L f).set k (a, e) = va_pl L (va_up f a e) := va_pl_set (X := []) hD h hk
theorem pm_free (hw : PW g A s H locs L f) : ∀ q, va_A (va_pl L f) H.size q → A q := by
  rintro q (⟨k, e, hk⟩ | h)
  · exact hw.2.2.1.2 k _ hk
  · exact hw.2.2.2.2 q (Nat.le_trans hw.2.2.2.1.1 h)
theorem pm_self (hD : va_D (fun _ => True) (va_pl L f)) (sz : Nat) : va_D (va_A (va_pl L f) sz) (va_pl L f) := ⟨hD.1, fun k q hk => Or.inl ⟨k, q.2, hk⟩⟩
theorem pm_begin {sz : Nat} (h : Pre g L f sz s) : sz = s.heap.size ∧ PW g (va_A (va_pl L f) s.heap.size) s s.heap [] L f ∧ Sx g (va_A (va_pl L f) s.heap.size) s s.heap := by
  obtain ⟨rfl, hP, hK, hD, hs⟩ := h
  exact ⟨rfl, ⟨hK, hP, pm_self hD _, va_S.rf, fun q h => Or.inr h⟩, hs⟩
theorem pm_sx (hw : PW g A s H locs L f) (hs : Sx g A s s.heap) {U : State} (hU : U.heap = H) (hW : s.WarmedH U.vm) : Sx g (va_A (va_pl L f) H.size) U U.heap := by
  rw [hU]
  exact ⟨(((hs.1.kept (fun a h1 h2 => hw.2.2.2.1.2.1 a h1 h2)).narrow (pm_free hw)).moved hW.alike), hs.2.warm hW⟩
theorem pm_pre (hw : PW g A s H locs L f) (hs : Sx g A s s.heap) {U : State} (hU : U.heap = H) (hW : s.WarmedH U.vm) : Pre g L f H.size U :=
  ⟨by rw [hU], by rw [hU]; exact hw.2.1, va_K.moved hW.alike hw.1, ⟨hw.2.2.1.1, fun _ _ _ => trivial⟩, pm_sx hw hs hU hW⟩
theorem pm_blind {av : List Value} {sz : Nat} : FrameBlind (va_Pc av (Pre g L f sz)) := by
  intro a U q mk h
  obtain ⟨h0, h1, h2, h3, h4, h5⟩ := h
  exact ⟨h0, h1, h2, va_K.moved (u := U) (U := U.calling q mk a) (Vm.Alike.refl U.vm) h3, h4, h5.1.moved (u := U) (U := U.calling q mk a) (Vm.Alike.refl U.vm), SxU.same (s := U) (U := U.calling q mk a) rfl h5.2⟩
theorem pm_recv (hw : PW g A s H locs L f) {fs : List Value} {i : Nat} {q : vw_C} (hq : a ∈ L) (hf : f a = .inr (i, fs)) (hc : vwCl[i]? = some q) : ∃ cell : Cell, H[a]? = some cell ∧ cell.vm.isStatics = false ∧ s.vm.findClass q.1 = some cell.cls := by
  obtain ⟨k, hk⟩ := pm_k f hq
  rw [hf] at hk
  exact va_recv hw.1 hw.2.1 hc hk
theorem pm_preV {C : String} {b : Addr} {As : List Value} (hw : PW g A s H locs L f) (hs : Sx g A s s.heap) (hr : ∃ cell : Cell, H[b]? = some cell ∧ cell.vm.isStatics = false ∧ s.vm.findClass C = some cell.cls) : PreV s H C b (va_Pc (.ref b :: As) (Pre g L f H.size)) As :=
  ⟨pm_blind, hr, fun _ hU hW => ⟨rfl, pm_pre hw hs hU hW⟩⟩
theorem pm_preS {As : List Value} (hw : PW g A s H locs L f) (hs : Sx g A s s.heap) : PreS s H (va_Pc As (Pre g L f H.size)) As :=
  ⟨pm_blind, fun _ hU hW => ⟨rfl, pm_pre hw hs hU hW⟩⟩
theorem pm_after {u : PE} {t : State} {H1 : Heap} {locs1 : List Loc} (hw : PW g A s H locs L f) (ht : t.heap = H1) (hvm : s.vm.Alike t.vm) (hB : Bw g (va_A (va_pl L f) H.size) u t) (hS : va_S A s.heap H1 locs1) : PW g A s H1 locs1 u.1 u.2 :=
  ⟨hw.1, by rw [← ht]; exact hB.1, ⟨hB.2.2.1, fun k q hk => pm_free hw _ (hB.2.2.2 k q hk)⟩, hS, hw.2.2.2.2⟩
section CALLS
variable {mc ms : Nat} {st0 : List Value} {aa : Array Value}
theorem pc_i {post : Int32 → PE → Prop} (hw : PW g A s H locs L f) (hr : va_Run p l e R s m args below meth c H locs cells slots mc ms (F0 m pc ls st0) rest (va_Qi (S := PE) post (Bw g (va_A (va_pl L f) H.size)) (va_A (va_pl L f) H.size) aa) (va_A (va_pl L f) H.size))
    (kk : ∀ (r : Int32) (L1 : List Nat) (f1 : Nat → va_E) (H1 : Heap) (locs1 : List Loc), post r (L1, f1) → PW g A s H1 locs1 L1 f1 → W p l e R s m args below meth c H1 locs1 (cells + mc) (slots + ms) Q (F0 m (pc + 3) ls (.int r :: rest))) : W p l e R s m args below meth c H locs cells slots Q (F0 m pc ls st0) :=
  va_calli hr hw.2.2.2.1 (fun q _ h => pm_free hw q h) (pm_free hw) (fun r u t H1 locs1 ht hvm hp hB _ _ hS => kk r u.1 u.2 H1 locs1 hp (pm_after hw ht hvm hB hS))
theorem pc_v {post : PE → Prop} (hw : PW g A s H locs L f) (hr : va_Run p l e R s m args below meth c H locs cells slots mc ms (F0 m pc ls st0) rest (va_Qv (S := PE) post (Bw g (va_A (va_pl L f) H.size)) (va_A (va_pl L f) H.size) aa) (va_A (va_pl L f) H.size))
    (kk : ∀ (L1 : List Nat) (f1 : Nat → va_E) (H1 : Heap) (locs1 : List Loc), post (L1, f1) → PW g A s H1 locs1 L1 f1 → W p l e R s m args below meth c H1 locs1 (cells + mc) (slots + ms) Q (F0 m (pc + 3) ls rest)) : W p l e R s m args below meth c H locs cells slots Q (F0 m pc ls st0) :=
  va_callv hr hw.2.2.2.1 (fun q _ h => pm_free hw q h) (pm_free hw) (fun u t H1 locs1 ht hvm hp hB _ _ hS => kk u.1 u.2 H1 locs1 hp (pm_after hw ht hvm hB hS))
theorem pc_q {post : Option Nat → PE → Prop} (hw : PW g A s H locs L f) (hr : va_Run p l e R s m args below meth c H locs cells slots mc ms (F0 m pc ls st0) rest (va_Qq (S := PE) post (Bw g (va_A (va_pl L f) H.size)) (va_A (va_pl L f) H.size) aa) (va_A (va_pl L f) H.size))
    (kk : ∀ (r : Option Nat) (L1 : List Nat) (f1 : Nat → va_E) (H1 : Heap) (locs1 : List Loc), post r (L1, f1) → PW g A s H1 locs1 L1 f1 → W p l e R s m args below meth c H1 locs1 (cells + mc) (slots + ms) Q (F0 m (pc + 3) ls (va_rf r :: rest))) : W p l e R s m args below meth c H locs cells slots Q (F0 m pc ls st0) :=
  va_callq hr hw.2.2.2.1 (fun q _ h => pm_free hw q h) (pm_free hw) (fun r u t H1 locs1 ht hvm hp hB _ _ hS => kk r u.1 u.2 H1 locs1 hp (pm_after hw ht hvm hB hS))
theorem pc_Fi {post : Int32 → PE → Prop} (hw : PW g A s H locs L f) (hr : va_Run5 p l e R s m args below meth c H locs cells slots mc ms (F0 m pc ls st0) rest (va_Qi (S := PE) post (Bw g (va_A (va_pl L f) H.size)) (va_A (va_pl L f) H.size) aa) (va_A (va_pl L f) H.size))
    (kk : ∀ (r : Int32) (L1 : List Nat) (f1 : Nat → va_E) (H1 : Heap) (locs1 : List Loc), post r (L1, f1) → PW g A s H1 locs1 L1 f1 → W p l e R s m args below meth c H1 locs1 (cells + mc) (slots + ms) Q (F0 m (pc + 5) ls (.int r :: rest))) : W p l e R s m args below meth c H locs cells slots Q (F0 m pc ls st0) :=
  va_callFi hr hw.2.2.2.1 (fun q _ h => pm_free hw q h) (pm_free hw) (fun r u t H1 locs1 ht hvm hp hB _ _ hS => kk r u.1 u.2 H1 locs1 hp (pm_after hw ht hvm hB hS))
theorem pc_Fv {post : PE → Prop} (hw : PW g A s H locs L f) (hr : va_Run5 p l e R s m args below meth c H locs cells slots mc ms (F0 m pc ls st0) rest (va_Qv (S := PE) post (Bw g (va_A (va_pl L f) H.size)) (va_A (va_pl L f) H.size) aa) (va_A (va_pl L f) H.size))
    (kk : ∀ (L1 : List Nat) (f1 : Nat → va_E) (H1 : Heap) (locs1 : List Loc), post (L1, f1) → PW g A s H1 locs1 L1 f1 → W p l e R s m args below meth c H1 locs1 (cells + mc) (slots + ms) Q (F0 m (pc + 5) ls rest)) : W p l e R s m args below meth c H locs cells slots Q (F0 m pc ls st0) :=
  va_callFv hr hw.2.2.2.1 (fun q _ h => pm_free hw q h) (pm_free hw) (fun u t H1 locs1 ht hvm hp hB _ _ hS => kk u.1 u.2 H1 locs1 hp (pm_after hw ht hvm hB hS))
theorem pc_Fq {post : Option Nat → PE → Prop} (hw : PW g A s H locs L f) (hr : va_Run5 p l e R s m args below meth c H locs cells slots mc ms (F0 m pc ls st0) rest (va_Qq (S := PE) post (Bw g (va_A (va_pl L f) H.size)) (va_A (va_pl L f) H.size) aa) (va_A (va_pl L f) H.size))
    (kk : ∀ (r : Option Nat) (L1 : List Nat) (f1 : Nat → va_E) (H1 : Heap) (locs1 : List Loc), post r (L1, f1) → PW g A s H1 locs1 L1 f1 → W p l e R s m args below meth c H1 locs1 (cells + mc) (slots + ms) Q (F0 m (pc + 5) ls (va_rf r :: rest))) : W p l e R s m args below meth c H locs cells slots Q (F0 m pc ls st0) :=
  va_callFq hr hw.2.2.2.1 (fun q _ h => pm_free hw q h) (pm_free hw) (fun r u t H1 locs1 ht hvm hp hB _ _ hS => kk r u.1 u.2 H1 locs1 hp (pm_after hw ht hvm hB hS))
theorem px_out {Qc : Array Value → State → Outcome → State → Prop} {mc0 ms0 : Nat} {ex0 : String → PE → Prop} {E : String} {ce : Cell} {q9 : Addr} (hw : PW g A s H locs L f) (htab : ∀ x ∈ c.exceptionTable.toList, False) (hlocks : meth.locks = false) (hm : cells ≤ mc0 ∧ slots ≤ ms0) (hx : ex0 E (L, f)) (h1 : H[q9]? = some ce) (h2 : ce.vm = .none) (h3 : s.vm.findClass E = some ce.cls) :
    vx_W p l e R s m args below meth c H locs cells slots (vx_MQ below Qc (Bx g A ex0) args s mc0 ms0 A) (F0 m pc ls rest) q9 :=
  vx_out (fun x h => (htab x h).elim) hlocks h1 h2 h3 (fun t ht hvm => ⟨(L, f), trivial, ⟨hx, by rw [ht]; exact hw.2.1, va_K.moved hvm hw.1, hw.2.2.1⟩, by rw [ht]; exact hw.2.2.2.1.1, fun q hq hA => by rw [ht]; exact hw.2.2.2.1.2.1 q hq hA⟩) hw.2.2.2.1.2.2 hm.1 hm.2
theorem px_ic {post : Int32 → PE → Prop} {ex : String → PE → Prop} (hw : PW g A s H locs L f) (hr : vx_Run p l e R s m args below meth c H locs cells slots mc ms (F0 m pc ls st0) rest (va_Qi (S := PE) post (Bw g (va_A (va_pl L f) H.size)) (va_A (va_pl L f) H.size) aa) (Bx g (va_A (va_pl L f) H.size) ex) (va_A (va_pl L f) H.size))
    (kx : ∀ (E : String) (ce : Cell) (q9 : Addr) (L1 : List Nat) (f1 : Nat → va_E) (H1 : Heap) (locs1 : List Loc), ex E (L1, f1) → PW g A s H1 locs1 L1 f1 → H1[q9]? = some ce → ce.vm = .none → s.vm.findClass E = some ce.cls → vx_W p l e R s m args below meth c H1 locs1 (cells + mc) (slots + ms) Q (F0 m pc ls rest) q9)
    (kk : ∀ (r : Int32) (L1 : List Nat) (f1 : Nat → va_E) (H1 : Heap) (locs1 : List Loc), post r (L1, f1) → PW g A s H1 locs1 L1 f1 → W p l e R s m args below meth c H1 locs1 (cells + mc) (slots + ms) Q (F0 m (pc + 3) ls (.int r :: rest))) : W p l e R s m args below meth c H locs cells slots Q (F0 m pc ls st0) :=
  vx_calli hr hw.2.2.2.1 (fun q _ h => pm_free hw q h) (pm_free hw) (fun q _ h => pm_free hw q h) (fun E ce q9 u t H1 locs1 ht hvm _ hB _ _ hS h1 h2 h3 => kx E ce q9 u.1 u.2 H1 locs1 hB.1 (pm_after hw ht hvm hB.2 hS) h1 h2 h3) (fun r u t H1 locs1 ht hvm hp hB _ _ hS => kk r u.1 u.2 H1 locs1 hp (pm_after hw ht hvm hB hS))
theorem px_i {Qc : Array Value → State → Outcome → State → Prop} {mc0 ms0 : Nat} {post : Int32 → PE → Prop} {ex ex0 : String → PE → Prop} (hw : PW g A s H locs L f) (hr : vx_Run p l e R s m args below meth c H locs cells slots mc ms (F0 m pc ls st0) rest (va_Qi (S := PE) post (Bw g (va_A (va_pl L f) H.size)) (va_A (va_pl L f) H.size) aa) (Bx g (va_A (va_pl L f) H.size) ex) (va_A (va_pl L f) H.size))
    (htab : ∀ x ∈ c.exceptionTable.toList, False) (hlocks : meth.locks = false) (hm : cells + mc ≤ mc0 ∧ slots + ms ≤ ms0) (hx : ∀ (E : String) (u : PE), ex E u → ex0 E u)
    (kk : ∀ (r : Int32) (L1 : List Nat) (f1 : Nat → va_E) (H1 : Heap) (locs1 : List Loc), post r (L1, f1) → PW g A s H1 locs1 L1 f1 → W p l e R s m args below meth c H1 locs1 (cells + mc) (slots + ms) (vx_MQ below Qc (Bx g A ex0) args s mc0 ms0 A) (F0 m (pc + 3) ls (.int r :: rest))) : W p l e R s m args below meth c H locs cells slots (vx_MQ below Qc (Bx g A ex0) args s mc0 ms0 A) (F0 m pc ls st0) :=
  px_ic hw hr (fun E ce q9 L1 f1 H1 locs1 he hw1 h1 h2 h3 => px_out hw1 htab hlocks hm (hx E (L1, f1) he) h1 h2 h3) kk
theorem px_vc {post : PE → Prop} {ex : String → PE → Prop} (hw : PW g A s H locs L f) (hr : vx_Run p l e R s m args below meth c H locs cells slots mc ms (F0 m pc ls st0) rest (va_Qv (S := PE) post (Bw g (va_A (va_pl L f) H.size)) (va_A (va_pl L f) H.size) aa) (Bx g (va_A (va_pl L f) H.size) ex) (va_A (va_pl L f) H.size))
    (kx : ∀ (E : String) (ce : Cell) (q9 : Addr) (L1 : List Nat) (f1 : Nat → va_E) (H1 : Heap) (locs1 : List Loc), ex E (L1, f1) → PW g A s H1 locs1 L1 f1 → H1[q9]? = some ce → ce.vm = .none → s.vm.findClass E = some ce.cls → vx_W p l e R s m args below meth c H1 locs1 (cells + mc) (slots + ms) Q (F0 m pc ls rest) q9)
    (kk : ∀ (L1 : List Nat) (f1 : Nat → va_E) (H1 : Heap) (locs1 : List Loc), post (L1, f1) → PW g A s H1 locs1 L1 f1 → W p l e R s m args below meth c H1 locs1 (cells + mc) (slots + ms) Q (F0 m (pc + 3) ls rest)) : W p l e R s m args below meth c H locs cells slots Q (F0 m pc ls st0) :=
  vx_callv hr hw.2.2.2.1 (fun q _ h => pm_free hw q h) (pm_free hw) (fun q _ h => pm_free hw q h) (fun E ce q9 u t H1 locs1 ht hvm _ hB _ _ hS h1 h2 h3 => kx E ce q9 u.1 u.2 H1 locs1 hB.1 (pm_after hw ht hvm hB.2 hS) h1 h2 h3) (fun u t H1 locs1 ht hvm hp hB _ _ hS => kk u.1 u.2 H1 locs1 hp (pm_after hw ht hvm hB hS))
theorem px_v {Qc : Array Value → State → Outcome → State → Prop} {mc0 ms0 : Nat} {post : PE → Prop} {ex ex0 : String → PE → Prop} (hw : PW g A s H locs L f) (hr : vx_Run p l e R s m args below meth c H locs cells slots mc ms (F0 m pc ls st0) rest (va_Qv (S := PE) post (Bw g (va_A (va_pl L f) H.size)) (va_A (va_pl L f) H.size) aa) (Bx g (va_A (va_pl L f) H.size) ex) (va_A (va_pl L f) H.size))
    (htab : ∀ x ∈ c.exceptionTable.toList, False) (hlocks : meth.locks = false) (hm : cells + mc ≤ mc0 ∧ slots + ms ≤ ms0) (hx : ∀ (E : String) (u : PE), ex E u → ex0 E u)
    (kk : ∀ (L1 : List Nat) (f1 : Nat → va_E) (H1 : Heap) (locs1 : List Loc), post (L1, f1) → PW g A s H1 locs1 L1 f1 → W p l e R s m args below meth c H1 locs1 (cells + mc) (slots + ms) (vx_MQ below Qc (Bx g A ex0) args s mc0 ms0 A) (F0 m (pc + 3) ls rest)) : W p l e R s m args below meth c H locs cells slots (vx_MQ below Qc (Bx g A ex0) args s mc0 ms0 A) (F0 m pc ls st0) :=
  px_vc hw hr (fun E ce q9 L1 f1 H1 locs1 he hw1 h1 h2 h3 => px_out hw1 htab hlocks hm (hx E (L1, f1) he) h1 h2 h3) kk
end CALLS
/-- ends -/
theorem pr_fin {v : Option Value} (hw : PW g A s H locs L f) {t : State} (ht : t.heap = H) (hW : s.vm.Alike t.vm) : Bw g A (L, f) t ∧ va_F A s t :=
  ⟨⟨by rw [ht]; exact hw.2.1, va_K.moved hW hw.1, hw.2.2.1⟩, by rw [ht]; exact hw.2.2.2.1.1, fun q hq hA => by rw [ht]; exact hw.2.2.2.1.2.1 q hq hA⟩
theorem pr_i {post : Int32 → PE → Prop} {v : Int32} {mc ms : Nat} {ty : FieldType} (hx : p.tables.exec = Jvm.exec) (hb : c.code = cc) (hr : meth.sig.returnType = some ty) (hlocks : meth.locks = false) (hw : PW g A s H locs L f) (hn : narrow ty (.int v) = .int v) (hm : cells ≤ mc ∧ slots ≤ ms) (hp : post v (L, f)) (hdg : decode cc pc = .ok (.ireturn, 1)) :
    W p l e R s m args below meth c H locs cells slots (MQ below (va_Qi (S := PE) post (Bw g A) A) args s mc ms A) (F0 m pc ls [.int v]) :=
  W.widen hm.1 hm.2 (W.zret hx hb hr hn (fun t ht hW => ⟨⟨v, (L, f), rfl, hp, (pr_fin (v := none) hw ht hW.alike).1⟩, (pr_fin (v := none) hw ht hW.alike).2⟩) hw.2.2.2.1.2.2 hdg hlocks)
theorem pr_v {post : PE → Prop} {mc ms : Nat} (hx : p.tables.exec = Jvm.exec) (hb : c.code = cc) (hr : meth.sig.returnType = none) (hlocks : meth.locks = false) (hw : PW g A s H locs L f) (hm : cells ≤ mc ∧ slots ≤ ms) (hp : post (L, f)) (hdg : decode cc pc = .ok (.return_, 1)) :
    W p l e R s m args below meth c H locs cells slots (MQ below (va_Qv (S := PE) post (Bw g A) A) args s mc ms A) (F0 m pc ls []) :=
  W.widen hm.1 hm.2 (W.vret hx hb hr (fun t ht hW => ⟨⟨(L, f), rfl, hp, (pr_fin (v := none) hw ht hW.alike).1⟩, (pr_fin (v := none) hw ht hW.alike).2⟩) hw.2.2.2.1.2.2 hdg hlocks)
theorem pr_q {post : Option Nat → PE → Prop} {v : Option Nat} {mc ms : Nat} {ty : FieldType} (hx : p.tables.exec = Jvm.exec) (hb : c.code = cc) (hr : meth.sig.returnType = some ty) (hlocks : meth.locks = false) (hrt : (∃ n, ty = .object n) ∨ ∃ t, ty = .array t) (hw : PW g A s H locs L f) (hm : cells ≤ mc ∧ slots ≤ ms) (hp : post v (L, f)) (hdg : decode cc pc = .ok (.areturn, 1)) :
    W p l e R s m args below meth c H locs cells slots (MQ below (va_Qq (S := PE) post (Bw g A) A) args s mc ms A) (F0 m pc ls [va_rf v]) :=
  W.widen hm.1 hm.2 (W.aret hx hb hr hrt (by cases v with | none => exact Or.inl rfl | some x => exact Or.inr ⟨x, rfl⟩) (fun t ht hW => ⟨⟨v, (L, f), rfl, hp, (pr_fin (v := none) hw ht hW.alike).1⟩, (pr_fin (v := none) hw ht hW.alike).2⟩) hw.2.2.2.1.2.2 hdg hlocks)
theorem pr_r {post : Option Nat → PE → Prop} {v : Nat} {mc ms : Nat} {ty : FieldType} (hx : p.tables.exec = Jvm.exec) (hb : c.code = cc) (hr : meth.sig.returnType = some ty) (hlocks : meth.locks = false) (hrt : (∃ n, ty = .object n) ∨ ∃ t, ty = .array t) (hw : PW g A s H locs L f) (hm : cells ≤ mc ∧ slots ≤ ms) (hp : post (some v) (L, f)) (hdg : decode cc pc = .ok (.areturn, 1)) :
    W p l e R s m args below meth c H locs cells slots (MQ below (va_Qq (S := PE) post (Bw g A) A) args s mc ms A) (F0 m pc ls [.ref v]) := pr_q (v := some v) hx hb hr hlocks hrt hw hm hp hdg
/-- the world's cells -/
theorem pm_get (hx : p.tables.exec = Jvm.exec) (hb : c.code = cc) {own ref C : String} {T : u_T} {N ci index : Nat} {Ts : List Cond} (hts : ∀ w ∈ Ts, w.before args s = true) (hin : ∀ w ∈ u_ws C T N, w ∈ Ts) (hown : s.vm.findClass own = some m.cls) (hw : PW g A s H locs L f) {fs : List Value} (hq : a ∈ L) (hf : f a = .inr (ci, fs)) (hc : vwCl[ci]? = some (C, T, N)) (k : Nat) (hk : k < N) (hlink : (Cond.fieldLink own index ref (T k).2.1 (T k).2.2.1).before args s = true) (hsame : ∀ x, s.fieldFound? (T k).1 (T k).2.1 (T k).2.2.1 = some x → s.fieldFound? ref (T k).2.1 (T k).2.2.1 = some x) {v : Value} (hv : fs[k]? = some v) (hdg : decode cc pc = .ok (.getfield index, 3))
    (kk : W p l e R s m args below meth c H locs cells slots Q (F0 m (pc + 3) ls (v :: rest))) : W p l e R s m args below meth c H locs cells slots Q (F0 m pc ls (.ref a :: rest)) := by
  obtain ⟨k0, hk0⟩ := pm_k f hq
  rw [hf] at hk0
  exact va_get hx hb hts hin hown hw.1 hw.2.1 k0 hk0 hc k hk hlink hsame hv hdg kk
theorem pm_put (hx : p.tables.exec = Jvm.exec) (hb : c.code = cc) {own ref C : String} {T : u_T} {N ci index : Nat} {Ts : List Cond} (hts : ∀ w ∈ Ts, w.before args s = true) (hin : ∀ w ∈ u_ws C T N, w ∈ Ts) (ty0 : Nat → FieldType) (hty : ∀ k, k < N → parseFieldDescriptor (T k).2.2.1 = some (ty0 k)) (hnm : ∀ a, a < N → ∀ b, b < N → a ≠ b → (T a).2.1 ≠ (T b).2.1) (hown : s.vm.findClass own = some m.cls) (hw : PW g A s H locs L f) {fs : List Value} (hq : a ∈ L) (hf : f a = .inr (ci, fs)) (hc : vwCl[ci]? = some (C, T, N)) (k : Nat) (hk : k < N) (hlink : (Cond.fieldLink own index ref (T k).2.1 (T k).2.2.1).before args s = true) (hsame : ∀ x, s.fieldFound? (T k).1 (T k).2.1 (T k).2.2.1 = some x → s.fieldFound? ref (T k).2.1 (T k).2.2.1 = some x) (hfin : (T k).2.2.2 = false) {ty : FieldType} {v : Value} (hd : parseFieldDescriptor (T k).2.2.1 = some ty) (hn : narrow ty v = v) (hfit : fits ty v = true) (hl : k < fs.length)
    (hdg : decode cc pc = .ok (.putfield index, 3)) (kk : ∀ (H1 : Heap) (locs1 : List Loc), PW g A s H1 locs1 L (va_up f a (.inr (ci, fs.set k v))) → W p l e R s m args below meth c H1 locs1 cells slots Q (F0 m (pc + 3) ls rest)) : W p l e R s m args below meth c H locs cells slots Q (F0 m pc ls (v :: .ref a :: rest)) := by
  obtain ⟨k0, hk0⟩ := pm_k f hq
  have hs := fun e => pm_set (e := e) hw.2.2.1 hq hk0
  rw [hf] at hk0
  refine va_put hx hb hts hin ty0 hty hnm hown hw.1 hw.2.1 hw.2.2.1 hw.2.2.2.1 k0 hk0 hc k hk hlink hsame hfin hd hn hfit hl hdg (fun H1 locs1 hP hD hS => kk H1 locs1 ⟨hw.1, ?_, ?_, hS, hw.2.2.2.2⟩)
  · rw [← hs]; exact hP
  · rw [← hs]; exact hD
theorem pm_putF (hx : p.tables.exec = Jvm.exec) (hb : c.code = cc) {own ref C : String} {T : u_T} {N ci index : Nat} {Ts : List Cond} (hts : ∀ w ∈ Ts, w.before args s = true) (hin : ∀ w ∈ u_ws C T N, w ∈ Ts) (ty0 : Nat → FieldType) (hty : ∀ k, k < N → parseFieldDescriptor (T k).2.2.1 = some (ty0 k)) (hnm : ∀ a, a < N → ∀ b, b < N → a ≠ b → (T a).2.1 ≠ (T b).2.1) (hown : s.vm.findClass own = some m.cls) (hw : PW g A s H locs L f) {fs : List Value} (hq : a ∈ L) (hf : f a = .inr (ci, fs)) (hc : vwCl[ci]? = some (C, T, N)) (k : Nat) (hk : k < N) (hlink : (Cond.fieldLink own index ref (T k).2.1 (T k).2.2.1).before args s = true) (hsame : ∀ x, s.fieldFound? (T k).1 (T k).2.1 (T k).2.2.1 = some x → s.fieldFound? ref (T k).2.1 (T k).2.2.1 = some x) (hfin : (T k).2.2.2 = true) (hin2 : meth.name = "<init>") (hdecl : (T k).1 = own) {ty : FieldType} {v : Value} (hd : parseFieldDescriptor (T k).2.2.1 = some ty) (hn : narrow ty v = v) (hfit : fits ty v = true) (hl : k < fs.length)
    (hdg : decode cc pc = .ok (.putfield index, 3)) (kk : ∀ (H1 : Heap) (locs1 : List Loc), PW g A s H1 locs1 L (va_up f a (.inr (ci, fs.set k v))) → W p l e R s m args below meth c H1 locs1 cells slots Q (F0 m (pc + 3) ls rest)) : W p l e R s m args below meth c H locs cells slots Q (F0 m pc ls (v :: .ref a :: rest)) := by
  obtain ⟨k0, hk0⟩ := pm_k f hq
  have hs := fun e => pm_set (e := e) hw.2.2.1 hq hk0
  rw [hf] at hk0
  refine va_putF hx hb hts hin ty0 hty hnm hown hw.1 hw.2.1 hw.2.2.1 hw.2.2.2.1 k0 hk0 hc k hk hlink hsame hfin hin2 hdecl hd hn hfit hl hdg (fun H1 locs1 hP hD hS => kk H1 locs1 ⟨hw.1, ?_, ?_, hS, hw.2.2.2.2⟩)
  · rw [← hs]; exact hP
  · rw [← hs]; exact hD
theorem pm_iald (hx : p.tables.exec = Jvm.exec) (hb : c.code = cc) (hw : PW g A s H locs L f) {n : Nat} {r : Nat → Int32} (hq : a ∈ L) (hf : f a = .inl (g.2.1 0, n, .inl r)) {i : Int32} (hin : vp_in i n) (hdg : decode cc pc = .ok (.iaload, 1))
    (kk : W p l e R s m args below meth c H locs cells slots Q (F0 m (pc + 1) ls (.int (r i.toNatClampNeg) :: rest))) : W p l e R s m args below meth c H locs cells slots Q (F0 m pc ls (.int i :: .ref a :: rest)) := by
  obtain ⟨k0, hk0⟩ := pm_k f hq
  rw [hf] at hk0
  exact va_iald hx hb hw.1 hw.2.1 k0 0 hk0 rfl hin hdg kk
theorem pm_zald (hx : p.tables.exec = Jvm.exec) (hb : c.code = cc) (hw : PW g A s H locs L f) {n : Nat} {r : Nat → Int32} (hq : a ∈ L) (hf : f a = .inl (g.2.1 1, n, .inl r)) {i : Int32} (hin : vp_in i n) (hdg : decode cc pc = .ok (.baload, 1))
    (kk : W p l e R s m args below meth c H locs cells slots Q (F0 m (pc + 1) ls (.int (r i.toNatClampNeg) :: rest))) : W p l e R s m args below meth c H locs cells slots Q (F0 m pc ls (.int i :: .ref a :: rest)) := by
  obtain ⟨k0, hk0⟩ := pm_k f hq
  rw [hf] at hk0
  exact va_zald hx hb hw.1 hw.2.1 k0 1 hk0 rfl hin hdg kk
theorem pm_aald (hx : p.tables.exec = Jvm.exec) (hb : c.code = cc) (hw : PW g A s H locs L f) {n : Nat} {r : Nat → Option Nat} (hq : a ∈ L) (hf : f a = .inl (g.2.1 2, n, .inr (.inr (.inr (.inr r))))) {i : Int32} (hin : vp_in i n) (hdg : decode cc pc = .ok (.aaload, 1))
    (kk : W p l e R s m args below meth c H locs cells slots Q (F0 m (pc + 1) ls (va_rf (r i.toNatClampNeg) :: rest))) : W p l e R s m args below meth c H locs cells slots Q (F0 m pc ls (.int i :: .ref a :: rest)) := by
  obtain ⟨k0, hk0⟩ := pm_k f hq
  rw [hf] at hk0
  exact va_aldq hx hb hw.1 hw.2.1 k0 2 hk0 rfl hin hdg kk
theorem pm_ilen (hx : p.tables.exec = Jvm.exec) (hb : c.code = cc) (hw : PW g A s H locs L f) (t0 : Nat) {cA : ClassId} {ty : FieldType} {y : vp_A} (hq : a ∈ L) (hf : f a = .inl (cA, y)) (ht : (tysOf g)[t0]? = some (cA, ty)) {v : Int32} (hv : Int32.ofNat y.1 = v) (hdg : decode cc pc = .ok (.arraylength, 1))
    (kk : W p l e R s m args below meth c H locs cells slots Q (F0 m (pc + 1) ls (.int v :: rest))) : W p l e R s m args below meth c H locs cells slots Q (F0 m pc ls (.ref a :: rest)) := by
  obtain ⟨k0, hk0⟩ := pm_k f hq
  rw [hf] at hk0
  exact va_alen hx hb hw.1 hw.2.1 k0 t0 hk0 ht hv hdg kk
theorem pm_iast (hx : p.tables.exec = Jvm.exec) (hb : c.code = cc) (hw : PW g A s H locs L f) {n : Nat} {r : Nat → Int32} (hq : a ∈ L) (hf : f a = .inl (g.2.1 0, n, .inl r)) {i x : Int32} (hin : vp_in i n) (hdg : decode cc pc = .ok (.iastore, 1))
    (kk : ∀ (H1 : Heap) (locs1 : List Loc), PW g A s H1 locs1 L (va_up f a (.inl (g.2.1 0, n, .inl (upd r i.toNatClampNeg x)))) → W p l e R s m args below meth c H1 locs1 cells slots Q (F0 m (pc + 1) ls rest)) : W p l e R s m args below meth c H locs cells slots Q (F0 m pc ls (.int x :: .int i :: .ref a :: rest)) := by
  obtain ⟨k0, hk0⟩ := pm_k f hq
  have hs := fun e => pm_set (e := e) hw.2.2.1 hq hk0
  rw [hf] at hk0
  refine va_iast hx hb hw.1 hw.2.1 hw.2.2.1 hw.2.2.2.1 k0 0 hk0 rfl hin hdg (fun H1 locs1 hP hD hS => kk H1 locs1 ⟨hw.1, ?_, ?_, hS, hw.2.2.2.2⟩)
  · rw [← hs]; exact hP
  · rw [← hs]; exact hD
theorem pm_zast (hx : p.tables.exec = Jvm.exec) (hb : c.code = cc) (hw : PW g A s H locs L f) {n : Nat} {r : Nat → Int32} (hq : a ∈ L) (hf : f a = .inl (g.2.1 1, n, .inl r)) {i x : Int32} (hin : vp_in i n) (hdg : decode cc pc = .ok (.bastore, 1))
    (kk : ∀ (H1 : Heap) (locs1 : List Loc), PW g A s H1 locs1 L (va_up f a (.inl (g.2.1 1, n, .inl (upd r i.toNatClampNeg (vp_nar .boolean x))))) → W p l e R s m args below meth c H1 locs1 cells slots Q (F0 m (pc + 1) ls rest)) : W p l e R s m args below meth c H locs cells slots Q (F0 m pc ls (.int x :: .int i :: .ref a :: rest)) := by
  obtain ⟨k0, hk0⟩ := pm_k f hq
  have hs := fun e => pm_set (e := e) hw.2.2.1 hq hk0
  rw [hf] at hk0
  refine va_zast hx hb hw.1 hw.2.1 hw.2.2.1 hw.2.2.2.1 k0 1 hk0 rfl hin hdg (fun H1 locs1 hP hD hS => kk H1 locs1 ⟨hw.1, ?_, ?_, hS, hw.2.2.2.2⟩)
  · rw [← hs]; exact hP
  · rw [← hs]; exact hD
theorem pm_notin {e : va_E} (hD : va_D A (va_pl L f ++ [(a, e)])) : a ∉ L := by
  intro h
  obtain ⟨k, hk⟩ := pm_k f h
  have hlt := (List.getElem?_eq_some_iff.mp hk).1
  have h1 : (va_pl L f ++ [(a, e)])[k]? = some (a, f a) := by rw [List.getElem?_append_left hlt]; exact hk
  have h2 : (va_pl L f ++ [(a, e)])[(va_pl L f).length]? = some (a, e) := by simp
  have := hD.1 _ _ _ _ h1 h2 rfl
  omega
theorem pm_new (hx : p.tables.exec = Jvm.exec) (hb : c.code = cc) {own C : String} {T : u_T} {N ci index : Nat} {Ts : List Cond} (hts : ∀ w ∈ Ts, w.before args s = true) (hin : ∀ w ∈ u_ws C T N, w ∈ Ts) (ty : Nat → FieldType) (hty : ∀ k, k < N → parseFieldDescriptor (T k).2.2.1 = some (ty k)) (hown : s.vm.findClass own = some m.cls) (hcl : (Cond.classLink own index C).before args s = true) (hinst : (Cond.instantiable C N).before args s = true) (hini : (Cond.initialized C).before args s = true)
    (hw : PW g A s H locs L f) (hc : vwCl[ci]? = some (C, T, N)) {fs : List Value} (hfs : ∀ j, j < N → defaultValue (ty j) = vp_V fs j) (hcells : cells + 1 ≤ R.cells) (hslots : slots + N ≤ R.slots) (hdg : decode cc pc = .ok (.new index, 3))
    (kk : ∀ (q : Nat) (H1 : Heap), q ∉ L → PW g A s H1 locs (L ++ [q]) (va_up f q (.inr (ci, fs))) →
      W p l e R s m args below meth c H1 locs (cells + 1) (slots + N) Q (F0 m (pc + 3) ls (.ref q :: rest))) : W p l e R s m args below meth c H locs cells slots Q (F0 m pc ls rest) := by
  refine va_new hx hb hts hin ty hty hown hcl hinst hini hw.1 hw.2.1 hw.2.2.1 hw.2.2.2.1 hw.2.2.2.2 hc hfs hcells hslots hdg (fun q H1 hP hD hS => ?_)
  have hn := pm_notin hD
  rw [va_pl_push hn] at hP hD
  exact kk q H1 hn ⟨hw.1, hP, hD, hS, hw.2.2.2.2⟩
theorem W_loop {σ : Type} (I : σ → Heap → List Loc → Array Slot → Prop) (μ : σ → Nat) (x0 : σ) (h0 : I x0 H locs ls)
    (step : ∀ (x : σ) (H : Heap) (locs : List Loc) (ls : Array Slot), I x H locs ls → (∀ (y : σ) (H1 : Heap) (locs1 : List Loc) (ls1 : Array Slot), μ y < μ x → I y H1 locs1 ls1 → W p l e R s m args below meth c H1 locs1 cells slots Q (F0 m pc ls1 rest)) → W p l e R s m args below meth c H locs cells slots Q (F0 m pc ls rest)) : W p l e R s m args below meth c H locs cells slots Q (F0 m pc ls rest) := by
  have key : ∀ (n : Nat) (x : σ) (H : Heap) (locs : List Loc) (ls : Array Slot), μ x < n → I x H locs ls → W p l e R s m args below meth c H locs cells slots Q (F0 m pc ls rest) := by
    intro n
    induction n with
    | zero => intro x H locs ls h; exact absurd h (Nat.not_lt_zero _)
    | succ n ih => intro x H locs ls h hI; exact step x H locs ls hI (fun y H1 locs1 ls1 hy hI1 => ih y H1 locs1 ls1 (Nat.lt_of_lt_of_le hy (Nat.le_of_lt_succ h)) hI1)
  exact key (μ x0 + 1) x0 H locs ls (Nat.lt_succ_self _) h0
theorem px_throwS {Qc : Array Value → State → Outcome → State → Prop} {mc0 ms0 nL : Nat} {ex0 : String → PE → Prop} (hx : p.tables.exec = Jvm.exec) (hb : c.code = cc) (hst : l.stackTraces = false) {own cls text : String} {names : List String} {ik is ic : Nat}
    (hown : s.vm.findClass own = some m.cls) (hcls : Bundle.fit cls = true) (hnames : ∀ n ∈ names, Bundle.fit n = true) (hk : (Cond.classLink own ik cls).before args s = true) (hini : (Cond.initialized cls).before args s = true) (htx : (own, is, text) ∈ sx_texts) {Ts : List Cond} (hts : ∀ w ∈ Ts, w.before args s = true) (hg1 : ∀ w ∈ (vx_atS own ic cls names).filter goodWord, w ∈ Ts) (hg2 : ∀ w ∈ (vx_atS own ic cls names).filter (fun w => !goodWord w), w ∈ sx_ng cls) (hca : (cls, cls) ∈ sx_cast)
    (hgood : ∀ w ∈ Cond.classLink own ik cls :: Cond.initialized cls :: vx_atS own ic cls names, vx_ot w = true) (hs : Sx g A s s.heap) (hw : PW g A s H locs L f) (hml : c.maxLocals = nL) (hl : ls.size = nL)
    (d0 : decode cc pc = .ok (.new ik, 3)) (d3 : decode cc (pc + 3) = .ok (.dup, 1)) (d4 : decode cc (pc + 4) = .ok (.ldc is, 2)) (d6 : decode cc (pc + 6) = .ok (.invokespecial ic, 3)) (d9 : decode cc (pc + 9) = .ok (.athrow, 1))
    (htab : ∀ x ∈ c.exceptionTable.toList, False) (hlocks : meth.locks = false) (hR : names.length + 3 < R.frames ∧ (rest.map fun v => v.category).sum + (13 * (names.length + 1) + 43) ≤ R.locals ∧ cells + 1 ≤ R.cells ∧ slots + 6 ≤ R.slots) (hm : cells + 1 ≤ mc0 ∧ slots + 6 ≤ ms0) (hex : ex0 cls (L, f)) :
    W p l e R s m args below meth c H locs cells slots (vx_MQ below Qc (Bx g A ex0) args s mc0 ms0 A) (F0 m pc ls rest) := by
  obtain ⟨sa, hsa⟩ := hs.2.1 (own, is, text) htx
  refine vx_throwS hx hb hst hown hcls hnames hk hini hsa (vx_hat (fun w h => hts w (hg1 w h)) hg2 (vx_c (va_Nw.use rfl (hs.2.2.2.1 (cls, cls) hca)) (vx_c (va_Nw.use rfl (hs.2.2.2.2.1 _ (List.mem_of_getElem? (i := 0) rfl))) (vx_c (va_Nw.use rfl (hs.2.2.2.2.1 _ (List.mem_of_getElem? (i := 1) rfl))) (vx_c (va_Nw.use rfl (hs.2.2.2.2.1 _ (List.mem_of_getElem? (i := 2) rfl))) vx_n))))) hgood hs.1.2.2.1 hs.1.2.2.2 hw.2.2.2.1 (hl.trans hml.symm) d0 d3 d4 d6 d9 (fun x h => (htab x h).elim) hR.1 hR.2.1 hR.2.2.1 hR.2.2.2 hlocks (fun t hvm h1 h2 => ?_) hw.2.2.2.1.2.2 hm.1 hm.2
  refine ⟨(L, f), trivial, ⟨hex, hw.2.1.kept (fun k x hk => h2 x.1 ((hw.2.1 k x hk).lt)), va_K.moved hvm hw.1, hw.2.2.1⟩, Nat.le_trans hw.2.2.2.1.1 h1, fun q hq hA => (h2 q (Nat.lt_of_lt_of_le hq hw.2.2.2.1.1)).trans (hw.2.2.2.1.2.1 q hq hA)⟩
end PLA
end
section
/-! leaves: what reads alone -/
section LEAF1
theorem i32_lt {a b : Int32} : a < b ↔ a.toInt < b.toInt := Int32.lt_iff_toInt_lt
theorem i32_le {a b : Int32} : a ≤ b ↔ a.toInt ≤ b.toInt := Int32.le_iff_toInt_le
theorem i32_0 : (0 : Int32).toInt = 0 := rfl
theorem i32_m1 : (-1 : Int32).toInt = -1 := rfl
theorem i32_3 : (3 : Int32).toInt = 3 := rfl
theorem i32_365 : (365 : Int32).toInt = 365 := rfl
def isF (x : Int32) : Prop := 0 ≤ x.toInt ∧ x.toInt < 3
def isD (x : Int32) : Prop := 0 ≤ x.toInt ∧ x.toInt < 365
noncomputable def known (to tb d : Int32) : Bool := decide (to.toInt ≤ d.toInt ∧ (tb.toInt = -1 ∨ d.toInt < tb.toInt))

set_option maxHeartbeats 4000000 in
set_option maxRecDepth 100000 in
theorem c_isField (l : Launch) (g : GE) (L : List Nat) (f : Nat → va_E) (x : Int32) : Mi l yX6_isField wsX6_isField (rmH 0 0 0) g L f [.int x] (fun r u => r = b2i (0 ≤ x.toInt ∧ x.toInt < 3) ∧ u = (L, f)) 0 0 := by
  intro sz
  refine Met.ofW (cc := cX6_isField) (maxL := 1) (ret := (some .boolean)) (by decide) rfl ?_
  intro p e s m args below meth c s₁ B hml hv
  obtain ⟨rfl, hv⟩ := hv
  have hx := B.exec
  have hb := B.bytes
  have hr := B.returns
  have hts := atoms_spec (ws := wsX6_isField) B.pre
  have hown : s.vm.findClass RX6 = some m.cls := findClass_of_methodNamed B.named
  have hlocks := B.notSynchronized
  obtain ⟨rfl, hw, hs⟩ := pm_begin hv
  generalize va_A (va_pl L f) s.heap.size = A at hw hs ⊢
  have CF := (⟨hx, hb, hml, hown, hts⟩ : CallFix p m c cX6_isField 1 s _ wsX6_isField RX6)
  have hl := lv_entry ([.int x]) (n := 1) (Nat.le_of_ble_eq_true rfl)
  rw [lg_entry_eq]
  generalize (lg_sl ([.int x]) ++ List.replicate (1 - (lg_sl ([.int x])).length) Slot.unset).toArray = ls at hl ⊢
  have hl : lv_has ls 1 [(0, .int x)] := hl
  refine lv_iload_n hx hb dX6_isField_0 rfl (lv_at hl 0 rfl) ?_
  refine lv_if_lt (tgt := 13) hx hb dX6_isField_1 (by decide) (fun c_1 => ?_) (fun c_1 => ?_)
  · refine lv_iconst (v := 0) hx hb dX6_isField_13 (by decide) ?_
    exact pr_i (v := 0) hx hb hr hlocks hw rfl ⟨Nat.le_of_ble_eq_true rfl, Nat.le_of_ble_eq_true rfl⟩ (⟨b2i_f (by simp only [i32_lt, i32_le, ← Int32.toInt_inj, i32_0, i32_m1, i32_3, i32_365] at c_1; omega), rfl⟩) dX6_isField_14
  · refine lv_iload_n hx hb dX6_isField_4 rfl (lv_at hl 0 rfl) ?_
    refine lv_iconst (v := 3) hx hb dX6_isField_5 (by decide) ?_
    refine lv_icmp_ge (tgt := 13) hx hb dX6_isField_6 (by decide) (fun c_6 => ?_) (fun c_6 => ?_)
    · refine lv_iconst (v := 0) hx hb dX6_isField_13 (by decide) ?_
      exact pr_i (v := 0) hx hb hr hlocks hw rfl ⟨Nat.le_of_ble_eq_true rfl, Nat.le_of_ble_eq_true rfl⟩ (⟨b2i_f (by simp only [i32_lt, i32_le, ← Int32.toInt_inj, i32_0, i32_m1, i32_3, i32_365] at c_1 c_6; omega), rfl⟩) dX6_isField_14
    · refine lv_iconst (v := 1) hx hb dX6_isField_9 (by decide) ?_
      refine lv_goto (tgt := 14) hx hb dX6_isField_10 (by decide) ?_
      exact pr_i (v := 1) hx hb hr hlocks hw rfl ⟨Nat.le_of_ble_eq_true rfl, Nat.le_of_ble_eq_true rfl⟩ (⟨b2i_t (by simp only [i32_lt, i32_le, ← Int32.toInt_inj, i32_0, i32_m1, i32_3, i32_365] at c_1 c_6; omega), rfl⟩) dX6_isField_14

set_option maxHeartbeats 4000000 in
set_option maxRecDepth 100000 in
theorem c_isDay (l : Launch) (g : GE) (L : List Nat) (f : Nat → va_E) (x : Int32) : Mi l yX6_isDay wsX6_isDay (rmH 0 0 0) g L f [.int x] (fun r u => r = b2i (0 ≤ x.toInt ∧ x.toInt < 365) ∧ u = (L, f)) 0 0 := by
  intro sz
  refine Met.ofW (cc := cX6_isDay) (maxL := 1) (ret := (some .boolean)) (by decide) rfl ?_
  intro p e s m args below meth c s₁ B hml hv
  obtain ⟨rfl, hv⟩ := hv
  have hx := B.exec
  have hb := B.bytes
  have hr := B.returns
  have hts := atoms_spec (ws := wsX6_isDay) B.pre
  have hown : s.vm.findClass RX6 = some m.cls := findClass_of_methodNamed B.named
  have hlocks := B.notSynchronized
  obtain ⟨rfl, hw, hs⟩ := pm_begin hv
  generalize va_A (va_pl L f) s.heap.size = A at hw hs ⊢
  have CF := (⟨hx, hb, hml, hown, hts⟩ : CallFix p m c cX6_isDay 1 s _ wsX6_isDay RX6)
  have hl := lv_entry ([.int x]) (n := 1) (Nat.le_of_ble_eq_true rfl)
  rw [lg_entry_eq]
  generalize (lg_sl ([.int x]) ++ List.replicate (1 - (lg_sl ([.int x])).length) Slot.unset).toArray = ls at hl ⊢
  have hl : lv_has ls 1 [(0, .int x)] := hl
  refine lv_iload_n hx hb dX6_isDay_0 rfl (lv_at hl 0 rfl) ?_
  refine lv_if_lt (tgt := 15) hx hb dX6_isDay_1 (by decide) (fun c_1 => ?_) (fun c_1 => ?_)
  · refine lv_iconst (v := 0) hx hb dX6_isDay_15 (by decide) ?_
    exact pr_i (v := 0) hx hb hr hlocks hw rfl ⟨Nat.le_of_ble_eq_true rfl, Nat.le_of_ble_eq_true rfl⟩ (⟨b2i_f (by simp only [i32_lt, i32_le, ← Int32.toInt_inj, i32_0, i32_m1, i32_3, i32_365] at c_1; omega), rfl⟩) dX6_isDay_16
  · refine lv_iload_n hx hb dX6_isDay_4 rfl (lv_at hl 0 rfl) ?_
    refine lv_sipush (v := 365) hx hb dX6_isDay_5 (by decide) ?_
    refine lv_icmp_ge (tgt := 15) hx hb dX6_isDay_8 (by decide) (fun c_8 => ?_) (fun c_8 => ?_)
    · refine lv_iconst (v := 0) hx hb dX6_isDay_15 (by decide) ?_
      exact pr_i (v := 0) hx hb hr hlocks hw rfl ⟨Nat.le_of_ble_eq_true rfl, Nat.le_of_ble_eq_true rfl⟩ (⟨b2i_f (by simp only [i32_lt, i32_le, ← Int32.toInt_inj, i32_0, i32_m1, i32_3, i32_365] at c_1 c_8; omega), rfl⟩) dX6_isDay_16
    · refine lv_iconst (v := 1) hx hb dX6_isDay_11 (by decide) ?_
      refine lv_goto (tgt := 16) hx hb dX6_isDay_12 (by decide) ?_
      exact pr_i (v := 1) hx hb hr hlocks hw rfl ⟨Nat.le_of_ble_eq_true rfl, Nat.le_of_ble_eq_true rfl⟩ (⟨b2i_t (by simp only [i32_lt, i32_le, ← Int32.toInt_inj, i32_0, i32_m1, i32_3, i32_365] at c_1 c_8; omega), rfl⟩) dX6_isDay_16

set_option maxHeartbeats 4000000 in
set_option maxRecDepth 100000 in
theorem c_isKnownOn (l : Launch) (g : GE) (L : List Nat) (f : Nat → va_E) (h0 po ki : Nat) (nu fl fr am to tb d : Int32) (hq0 : h0 ∈ L) (hf0 : f h0 = .inr (3, [.int nu, .ref po, .ref ki, .int fl, .int fr, .int am, .int to, .int tb])) : Mi l yX0_isKnownOn wsX0_isKnownOn (rmH 0 0 0) g L f [.ref h0, .int d] (fun r u => r = b2i (to.toInt ≤ d.toInt ∧ (tb.toInt = -1 ∨ d.toInt < tb.toInt)) ∧ u = (L, f)) 0 0 := by
  intro sz
  refine Met.ofW (cc := cX0_isKnownOn) (maxL := 2) (ret := (some .boolean)) (by decide) rfl ?_
  intro p e s m args below meth c s₁ B hml hv
  obtain ⟨rfl, hv⟩ := hv
  have hx := B.exec
  have hb := B.bytes
  have hr := B.returns
  have hts := atoms_spec (ws := wsX0_isKnownOn) B.pre
  have hown : s.vm.findClass RX0 = some m.cls := findClass_of_methodNamed B.named
  have hlocks := B.notSynchronized
  obtain ⟨rfl, hw, hs⟩ := pm_begin hv
  generalize va_A (va_pl L f) s.heap.size = A at hw hs ⊢
  have CF := (⟨hx, hb, hml, hown, hts⟩ : CallFix p m c cX0_isKnownOn 2 s _ wsX0_isKnownOn RX0)
  have hin_X0 : ∀ w ∈ wsX00, w ∈ wsX0_isKnownOn := by decide +kernel
  have hl := lv_entry ([.ref h0, .int d]) (n := 2) (Nat.le_of_ble_eq_true rfl)
  rw [lg_entry_eq]
  generalize (lg_sl ([.ref h0, .int d]) ++ List.replicate (2 - (lg_sl ([.ref h0, .int d])).length) Slot.unset).toArray = ls at hl ⊢
  have hl : lv_has ls 2 [(0, .ref h0), (1, .int d)] := hl
  refine lv_aload_n hx hb dX0_isKnownOn_0 rfl (lv_at hl 0 rfl) ?_
  refine pm_get (ci := 3) (v := .int to) (C := RX0) (T := TX0) (N := 8) hx hb hts hin_X0 hown hw hq0 hf0 rfl 6 (by decide) (hts (.fieldLink RX0 35 "Backdater$Change" "toldOn" "I") (by decide +kernel)) (fun _ h9 => h9) rfl dX0_isKnownOn_1 ?_
  refine lv_iload_n hx hb dX0_isKnownOn_4 rfl (lv_at hl 1 rfl) ?_
  refine lv_icmp_gt (tgt := 28) hx hb dX0_isKnownOn_5 (by decide) (fun c_5 => ?_) (fun c_5 => ?_)
  · refine lv_iconst (v := 0) hx hb dX0_isKnownOn_28 (by decide) ?_
    exact pr_i (v := 0) hx hb hr hlocks hw rfl ⟨Nat.le_of_ble_eq_true rfl, Nat.le_of_ble_eq_true rfl⟩ (⟨b2i_f (by simp only [i32_lt, i32_le, ← Int32.toInt_inj, i32_0, i32_m1, i32_3, i32_365] at c_5; omega), rfl⟩) dX0_isKnownOn_29
  · refine lv_aload_n hx hb dX0_isKnownOn_8 rfl (lv_at hl 0 rfl) ?_
    refine pm_get (ci := 3) (v := .int tb) (C := RX0) (T := TX0) (N := 8) hx hb hts hin_X0 hown hw hq0 hf0 rfl 7 (by decide) (hts (.fieldLink RX0 9 "Backdater$Change" "takenBackOn" "I") (by decide +kernel)) (fun _ h9 => h9) rfl dX0_isKnownOn_9 ?_
    refine lv_iconst (v := (-1)) hx hb dX0_isKnownOn_12 (by decide) ?_
    refine lv_icmp_eq (tgt := 24) hx hb dX0_isKnownOn_13 (by decide) (fun c_13 => ?_) (fun c_13 => ?_)
    · refine lv_iconst (v := 1) hx hb dX0_isKnownOn_24 (by decide) ?_
      refine lv_goto (tgt := 29) hx hb dX0_isKnownOn_25 (by decide) ?_
      exact pr_i (v := 1) hx hb hr hlocks hw rfl ⟨Nat.le_of_ble_eq_true rfl, Nat.le_of_ble_eq_true rfl⟩ (⟨b2i_t (by simp only [i32_lt, i32_le, ← Int32.toInt_inj, i32_0, i32_m1, i32_3, i32_365] at c_5 c_13; omega), rfl⟩) dX0_isKnownOn_29
    · refine lv_aload_n hx hb dX0_isKnownOn_16 rfl (lv_at hl 0 rfl) ?_
      refine pm_get (ci := 3) (v := .int tb) (C := RX0) (T := TX0) (N := 8) hx hb hts hin_X0 hown hw hq0 hf0 rfl 7 (by decide) (hts (.fieldLink RX0 9 "Backdater$Change" "takenBackOn" "I") (by decide +kernel)) (fun _ h9 => h9) rfl dX0_isKnownOn_17 ?_
      refine lv_iload_n hx hb dX0_isKnownOn_20 rfl (lv_at hl 1 rfl) ?_
      refine lv_icmp_le (tgt := 28) hx hb dX0_isKnownOn_21 (by decide) (fun c_21 => ?_) (fun c_21 => ?_)
      · refine lv_iconst (v := 0) hx hb dX0_isKnownOn_28 (by decide) ?_
        exact pr_i (v := 0) hx hb hr hlocks hw rfl ⟨Nat.le_of_ble_eq_true rfl, Nat.le_of_ble_eq_true rfl⟩ (⟨b2i_f (by simp only [i32_lt, i32_le, ← Int32.toInt_inj, i32_0, i32_m1, i32_3, i32_365] at c_5 c_13 c_21; omega), rfl⟩) dX0_isKnownOn_29
      · refine lv_iconst (v := 1) hx hb dX0_isKnownOn_24 (by decide) ?_
        refine lv_goto (tgt := 29) hx hb dX0_isKnownOn_25 (by decide) ?_
        exact pr_i (v := 1) hx hb hr hlocks hw rfl ⟨Nat.le_of_ble_eq_true rfl, Nat.le_of_ble_eq_true rfl⟩ (⟨b2i_t (by simp only [i32_lt, i32_le, ← Int32.toInt_inj, i32_0, i32_m1, i32_3, i32_365] at c_5 c_13 c_21; omega), rfl⟩) dX0_isKnownOn_29

set_option maxHeartbeats 4000000 in
set_option maxRecDepth 100000 in
theorem c_demandWithin (l : Launch) (hst : l.stackTraces = false) (g : GE) (L : List Nat) (f : Nat → va_E) (x lo hi : Int32) : Xv l yX6_demandWithin wsX6_demandWithin (rmH 0 1 6) g L f [.int x, .int lo, .int hi] (fun u => (lo.toInt ≤ x.toInt ∧ x.toInt ≤ hi.toInt) ∧ u = (L, f)) (fun E u => E = "java/lang/IllegalArgumentException" ∧ ¬ (lo.toInt ≤ x.toInt ∧ x.toInt ≤ hi.toInt) ∧ u = (L, f)) 1 6 := by
  intro sz
  refine vx_ofW (cc := cX6_demandWithin) (maxL := 3) (ret := none) (by decide) rfl ?_
  intro p e s m args below meth c s₁ B hml htab hv
  obtain ⟨rfl, hv⟩ := hv
  have hx := B.exec
  have hb := B.bytes
  have hr := B.returns
  have hts := atoms_spec (ws := wsX6_demandWithin) B.pre
  have hown : s.vm.findClass RX6 = some m.cls := findClass_of_methodNamed B.named
  have hlocks := B.notSynchronized
  obtain ⟨rfl, hw, hs⟩ := pm_begin hv
  generalize va_A (va_pl L f) s.heap.size = A at hw hs ⊢
  have CF := (⟨hx, hb, hml, hown, hts⟩ : CallFix p m c cX6_demandWithin 3 s _ wsX6_demandWithin RX6)
  have hl := lv_entry ([.int x, .int lo, .int hi]) (n := 3) (Nat.le_of_ble_eq_true rfl)
  rw [lg_entry_eq]
  generalize (lg_sl ([.int x, .int lo, .int hi]) ++ List.replicate (3 - (lg_sl ([.int x, .int lo, .int hi])).length) Slot.unset).toArray = ls at hl ⊢
  have hl : lv_has ls 3 [(0, .int x), (1, .int lo), (2, .int hi)] := hl
  refine lv_iload_n hx hb dX6_demandWithin_0 rfl (lv_at hl 0 rfl) ?_
  refine lv_iload_n hx hb dX6_demandWithin_1 rfl (lv_at hl 1 rfl) ?_
  refine lv_icmp_lt (tgt := 10) hx hb dX6_demandWithin_2 (by decide) (fun c_2 => ?_) (fun c_2 => ?_)
  · exact px_throwS (own := RX6) (cls := "java/lang/IllegalArgumentException") (names := ["java/lang/RuntimeException", "java/lang/Exception"]) hx hb hst hown (by decide +kernel) (by decide +kernel) (hts (.classLink RX6 180 "java/lang/IllegalArgumentException") (by decide +kernel)) (hts (.initialized "java/lang/IllegalArgumentException") (by decide +kernel)) (by decide +kernel : (RX6, 182, "a number is out of range") ∈ sx_texts) hts (by decide +kernel) (by decide +kernel) (by decide +kernel) (by decide +kernel) hs hw hml hl.1 dX6_demandWithin_10 dX6_demandWithin_13 dX6_demandWithin_14 dX6_demandWithin_16 dX6_demandWithin_19 htab hlocks ⟨Nat.le_of_ble_eq_true rfl, Nat.le_of_ble_eq_true rfl, Nat.le_of_ble_eq_true rfl, Nat.le_of_ble_eq_true rfl⟩ ⟨Nat.le_of_ble_eq_true rfl, Nat.le_of_ble_eq_true rfl⟩ (⟨rfl, by simp only [i32_lt, i32_le] at c_2; omega, rfl⟩)
  · refine lv_iload_n hx hb dX6_demandWithin_5 rfl (lv_at hl 0 rfl) ?_
    refine lv_iload_n hx hb dX6_demandWithin_6 rfl (lv_at hl 2 rfl) ?_
    refine lv_icmp_le (tgt := 20) hx hb dX6_demandWithin_7 (by decide) (fun c_7 => ?_) (fun c_7 => ?_)
    · exact vx_ret (pr_v hx hb hr hlocks hw ⟨Nat.le_of_ble_eq_true rfl, Nat.le_of_ble_eq_true rfl⟩ (⟨by simp only [i32_lt, i32_le] at c_2 c_7; omega, rfl⟩) dX6_demandWithin_20)
    · exact px_throwS (own := RX6) (cls := "java/lang/IllegalArgumentException") (names := ["java/lang/RuntimeException", "java/lang/Exception"]) hx hb hst hown (by decide +kernel) (by decide +kernel) (hts (.classLink RX6 180 "java/lang/IllegalArgumentException") (by decide +kernel)) (hts (.initialized "java/lang/IllegalArgumentException") (by decide +kernel)) (by decide +kernel : (RX6, 182, "a number is out of range") ∈ sx_texts) hts (by decide +kernel) (by decide +kernel) (by decide +kernel) (by decide +kernel) hs hw hml hl.1 dX6_demandWithin_10 dX6_demandWithin_13 dX6_demandWithin_14 dX6_demandWithin_16 dX6_demandWithin_19 htab hlocks ⟨Nat.le_of_ble_eq_true rfl, Nat.le_of_ble_eq_true rfl, Nat.le_of_ble_eq_true rfl, Nat.le_of_ble_eq_true rfl⟩ ⟨Nat.le_of_ble_eq_true rfl, Nat.le_of_ble_eq_true rfl⟩ (⟨rfl, by simp only [i32_lt, i32_le] at c_2 c_7; omega, rfl⟩)

end LEAF1
end
