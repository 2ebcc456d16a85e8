/-! The pool calculus: the world is (L, f): the addresses and what lies at each; every method gets the whole world of its side. -/
section PLA
abbrev GE : Type := va_G × (Nat → ClassId) × (Nat → Nat)
def tysOf (g : GE) : List (ClassId × FieldType) := [(g.2.1 0, .int), (g.2.1 1, .byte), (g.2.1 2, .object "java/lang/Object"), (g.2.1 3, .array .int)]
abbrev PE : Type := List Nat × (Nat → va_E)
theorem pu_s {α : Type} {f : Nat → α} {a : Nat} {e : α} : va_up f a e a = e := if_pos rfl
theorem pu_n {α : Type} {f : Nat → α} {a b : Nat} {e e' : α} (h : b ≠ a) (hb : f b = e') : va_up f a e b = e' := (if_neg h).trans hb
theorem pm_ne {f : Nat → va_E} {a b : Nat} {ea eb : va_E} (hb : f b = eb) (ha : f a = ea) (h : eb ≠ ea) : b ≠ a := fun q => h (by rw [← hb, ← ha, q])
def b2i (P : Prop) [Decidable P] : Int32 := if P then 1 else 0
theorem b2i_t {P : Prop} [Decidable P] (h : P) : (1 : Int32) = b2i P := (if_pos h).symm
theorem b2i_f {P : Prop} [Decidable P] (h : ¬ P) : (0 : Int32) = b2i P := (if_neg h).symm
def sx_texts : List (String × Nat × String) := [("Backdater", 56, "there are 4 policies"), ("Backdater", 79, "there are 20 tariffs"), ("Backdater", 115, "the change was taken back"), ("Backdater", 182, "a number is out of range"), ("Backdater", 190, "there is no such field"), ("Backdater", 193, "there is no such policy"), ("Backdater", 195, "there is no such change"), ("Backdater", 197, "there are 60 changes"), ("Backdater", 235, "there is no such segment")]
def sx_nest : List (String × Nat × MethodName) := [(RX6, 28, yX4_init), (RX6, 35, yX5_init), (RX3, 29, yX6_isField), (RX4, 66, yX6_isField), (RX3, 33, yX6_isDay), (RX5, 18, yX6_isDay)]
/-- the constants' cells: they lie outside A -/
def SxH (g : GE) (A : Nat → Prop) (U : State) (H : Heap) : Prop :=
  (va_Z "Backdater$Kind" "SET" "LBackdater$Kind;" (.ref (g.2.2 0)) A U H ∧ va_Z "Backdater$Kind" "ADD" "LBackdater$Kind;" (.ref (g.2.2 1)) A U H ∧ va_Z "Backdater$Kind" "CANCEL" "LBackdater$Kind;" (.ref (g.2.2 2)) A U H ∧ va_Z "Backdater$Kind" "REINSTATE" "LBackdater$Kind;" (.ref (g.2.2 3)) A U H) ∧
  (va_Z "java/util/ArrayList" "DEFAULTCAPACITY_EMPTY_ELEMENTDATA" "[Ljava/lang/Object;" (.ref (g.2.2 4)) A U H ∧ va_T (.object "java/lang/Object") (g.2.2 4) 0 (fun _ => .null) A U H) ∧
  (vx_Zq Bundle.tN "UNASSIGNED_STACK" Bundle.steD A U H ∧ vx_Zq Bundle.tN "SUPPRESSED_SENTINEL" Bundle.listD A U H)
/-- words that are given of the machine, and hold wherever it is warmer -/
def sx_words : List Cond := [.sameField "java/util/ArrayList" "java/util/AbstractList" "modCount" "I"]
def sx_cast : List (String × String) := [("Backdater$Policy", "Backdater$Policy"), ("Backdater$Change", "Backdater$Change"), ("Backdater$Change", "java/lang/Object"), ("Backdater$Policy", "java/lang/Object"), ("java/lang/IllegalArgumentException", "java/lang/IllegalArgumentException"), ("java/lang/IllegalStateException", "java/lang/IllegalStateException"), ("java/lang/IndexOutOfBoundsException", "java/lang/IndexOutOfBoundsException")]
def sx_decl : List MethodName := [⟨"java/lang/RuntimeException", "<init>", "(Ljava/lang/String;)V"⟩, ⟨"java/lang/Exception", "<init>", "(Ljava/lang/String;)V"⟩, ⟨"java/lang/Throwable", "<init>", "(Ljava/lang/String;)V"⟩]
abbrev sx_ng (cls : String) : List Cond := [.castable cls cls, .declares ⟨"java/lang/RuntimeException", "<init>", "(Ljava/lang/String;)V"⟩, .declares ⟨"java/lang/Exception", "<init>", "(Ljava/lang/String;)V"⟩, .declares ⟨"java/lang/Throwable", "<init>", "(Ljava/lang/String;)V"⟩]
def SxU (g : GE) (U : State) : Prop :=
  (∀ q ∈ sx_texts, ∃ a : Nat, vk_R q.1 q.2.1 q.2.2 a U) ∧ (∀ w ∈ sx_words, va_Nw w U) ∧ (∀ q ∈ sx_cast, va_Nw (.castable q.1 q.2) U) ∧ (∀ y ∈ sx_decl, va_Nw (.declares y) U) ∧ (∀ q ∈ sx_nest, va_Nw (.methodLinkNest q.1 q.2.1 q.2.2 "Backdater") U) ∧
  (va_Fw "java/util/ArrayList" ⟨"java/util/List", "size", "()I"⟩ yJx4a65c_size_8abf5 U ∧ va_Fw "java/util/ArrayList" ⟨"java/util/List", "get", "(I)Ljava/lang/Object;"⟩ yJx4a65c_get_915e3 U ∧ va_Fw "java/util/ArrayList" ⟨"java/util/List", "add", "(Ljava/lang/Object;)Z"⟩ yJx4a65c_add_9ea2d U ∧ va_Fw "java/util/ArrayList" ⟨"java/util/List", "add", "(ILjava/lang/Object;)V"⟩ yJx4a65c_add_7a177 U) ∧
  (va_AO "java/lang/Object" U ∧ va_AOA .int U ∧ va_Mi "[Ljava/lang/Object;" (g.2.2 5) U ∧ va_Dc U ∧ ∀ i j : Nat, i < 4 → j < 4 → g.2.2 i = g.2.2 j → i = j)
def Sx (g : GE) (A : Nat → Prop) (U : State) (H : Heap) : Prop := SxH g A U H ∧ SxU g U
theorem SxH.moved {g : GE} {A : Nat → Prop} {u U : State} {H : Heap} (hvm : u.vm.Alike U.vm) (h : SxH g A u H) : SxH g A U H :=
  ⟨⟨h.1.1.moved hvm, h.1.2.1.moved hvm, h.1.2.2.1.moved hvm, h.1.2.2.2.moved hvm⟩, ⟨h.2.1.1.moved hvm, h.2.1.2.moved hvm⟩, ⟨h.2.2.1.moved hvm, h.2.2.2.moved hvm⟩⟩
theorem SxH.kept {g : GE} {A : Nat → Prop} {U : State} {H H1 : Heap} (h : SxH g A U H) (hq : ∀ a : Nat, a < H.size → ¬ A a → H1[a]? = H[a]?) : SxH g A U H1 :=
  ⟨⟨h.1.1.kept hq, h.1.2.1.kept hq, h.1.2.2.1.kept hq, h.1.2.2.2.kept hq⟩, ⟨h.2.1.1.kept hq, h.2.1.2.kept hq⟩, ⟨h.2.2.1.kept hq, h.2.2.2.kept hq⟩⟩
theorem SxH.narrow {g : GE} {A B : Nat → Prop} {U : State} {H : Heap} (h : SxH g A U H) (hAB : ∀ q, B q → A q) : SxH g B U H :=
  ⟨⟨h.1.1.narrow hAB, h.1.2.1.narrow hAB, h.1.2.2.1.narrow hAB, h.1.2.2.2.narrow hAB⟩, ⟨h.2.1.1.narrow hAB, h.2.1.2.narrow hAB⟩, ⟨h.2.2.1.narrow hAB, h.2.2.2.narrow hAB⟩⟩
theorem AOA_moved {u U : State} (hvm : u.vm.Alike U.vm) (h : va_AOA .int u) : va_AOA .int U := arrayOver_alikeB hvm h
theorem word_moved {w : Cond} (hw : goodWord w = true) {s U : State} (hW : s.WarmedH U.vm) (h : va_Nw w s) : va_Nw w U := word_at hW (good_of_word hw) h
theorem castable_moved {a b : String} {u U : State} (hvm : u.vm.Alike U.vm) (h : va_Nw (.castable a b) u) : va_Nw (.castable a b) U := by
  obtain ⟨c, t, h1, h2, h3⟩ := Cond.castable_spec h
  have e1 : U.vm.findClass a = some c := by rw [hvm.findClass]; exact h1
  have e2 : U.vm.findClass b = some t := by rw [hvm.findClass]; exact h2
  have e3 : U.vm.assignable c t = true := by rw [hvm.assignable]; exact h3
  simp [va_Nw, Cond.before, Cond.holds, Cond.value, e1, e2, e3]
theorem decl_moved {y : MethodName} {u U : State} (hvm : u.vm.Alike U.vm) (h : va_Nw (.declares y) u) : va_Nw (.declares y) U := by
  have h1 : (Cond.declares y).before #[] (u.setVm U.vm) = true := by
    rw [Cond.declares_setVm hvm]
    exact h
  have e := Cond.onTables_vm (A := #[]) (A' := #[]) (U := u) (U' := U) U.vm (Cond.declares y) rfl
  have hU : U.setVm U.vm = U := rfl
  rw [hU] at e
  unfold va_Nw
  rw [← e]
  exact h1
theorem sx_words_good : ∀ w ∈ sx_words, goodWord w = true := by decide +kernel
theorem SxU.warm {g : GE} {s U : State} (hW : s.WarmedH U.vm) (h : SxU g s) : SxU g U := by
  obtain ⟨h1, h2, h2c, h2d, h3, ⟨f1, f2, f3, f4⟩, k1, k2, k3, k4, k5⟩ := h
  refine ⟨fun q hq => ?_, fun w hw => word_moved (sx_words_good w hw) hW (h2 w hw), fun q hq => castable_moved hW.alike (h2c q hq), fun y hy => decl_moved hW.alike (h2d y hy), fun q hq => (h3 q hq).warmM hW, ⟨f1.moved ⟨by decide +kernel, by decide +kernel⟩ hW.alike, f2.moved ⟨by decide +kernel, by decide +kernel⟩ hW.alike, f3.moved ⟨by decide +kernel, by decide +kernel⟩ hW.alike, f4.moved ⟨by decide +kernel, by decide +kernel⟩ hW.alike⟩, k1.moved hW.alike, AOA_moved hW.alike k2, k3.moved hW.alike, k4.moved hW.alike, k5⟩
  obtain ⟨a, ha⟩ := h1 q hq
  exact ⟨a, ha.warm hW⟩
theorem SxU.same {g : GE} {s U : State} (hv : U.vm = s.vm) (h : SxU g s) : SxU g U := h.warm (by rw [hv]; exact State.WarmedH.refl s)
/-- the world at a point of a method that began at s -/
def PW (g : GE) (A : Nat → Prop) (s : State) (H : Heap) (locs : List Loc) (L : List Nat) (f : Nat → va_E) : Prop :=
  va_K g.1 vwCl (tysOf g) s ∧ va_P g.1 vwCl (va_pl L f) H ∧ va_D A (va_pl L f) ∧ va_S A s.heap H locs ∧ ∀ q : Nat, s.heap.size ≤ q → A q
/-- the world that a contract begins with -/
def Pre (g : GE) (L : List Nat) (f : Nat → va_E) (sz : Nat) (U : State) : Prop :=
  U.heap.size = sz ∧ va_P g.1 vwCl (va_pl L f) U.heap ∧ va_K g.1 vwCl (tysOf g) U ∧ va_D (fun _ => True) (va_pl L f) ∧ Sx g (va_A (va_pl L f) sz) U U.heap
/-- the world that a contract ends with -/
def Bw (g : GE) (A : Nat → Prop) (u : PE) (t : State) : Prop := va_P g.1 vwCl (va_pl u.1 u.2) t.heap ∧ va_K g.1 vwCl (tysOf g) t ∧ va_D A (va_pl u.1 u.2)
def Bx (g : GE) (A : Nat → Prop) (ex : String → PE → Prop) : String → State → State → Prop := vx_X (S := PE) (fun _ => True) (fun E u t => ex E u ∧ Bw g A u t) A
abbrev rmH (h mc ms : Nat) : Room := { frames := 8 * h + 8, cells := mc, slots := ms, locals := 100 * h + 100 }
def Mi (l : Launch) (y : MethodName) (ws : List Cond) (rm : Room) (g : GE) (L : List Nat) (f : Nat → va_E) (av : List Value) (post : Int32 → PE → Prop) (mc ms : Nat) : Prop :=
  ∀ sz : Nat, Met l y ws rm (va_Pc av (Pre g L f sz)) (va_Qi (S := PE) post (Bw g (va_A (va_pl L f) sz)) (va_A (va_pl L f) sz)) mc ms (va_A (va_pl L f) sz)
def Mv (l : Launch) (y : MethodName) (ws : List Cond) (rm : Room) (g : GE) (L : List Nat) (f : Nat → va_E) (av : List Value) (post : PE → Prop) (mc ms : Nat) : Prop :=
  ∀ sz : Nat, Met l y ws rm (va_Pc av (Pre g L f sz)) (va_Qv (S := PE) post (Bw g (va_A (va_pl L f) sz)) (va_A (va_pl L f) sz)) mc ms (va_A (va_pl L f) sz)
def Mq (l : Launch) (y : MethodName) (ws : List Cond) (rm : Room) (g : GE) (L : List Nat) (f : Nat → va_E) (av : List Value) (post : Option Nat → PE → Prop) (mc ms : Nat) : Prop :=
  ∀ sz : Nat, Met l y ws rm (va_Pc av (Pre g L f sz)) (va_Qq (S := PE) post (Bw g (va_A (va_pl L f) sz)) (va_A (va_pl L f) sz)) mc ms (va_A (va_pl L f) sz)
def Xi (l : Launch) (y : MethodName) (ws : List Cond) (rm : Room) (g : GE) (L : List Nat) (f : Nat → va_E) (av : List Value) (post : Int32 → PE → Prop) (ex : String → PE → Prop) (mc ms : Nat) : Prop :=
  ∀ sz : Nat, vx_Met l y ws rm (va_Pc av (Pre g L f sz)) (va_Qi (S := PE) post (Bw g (va_A (va_pl L f) sz)) (va_A (va_pl L f) sz)) (Bx g (va_A (va_pl L f) sz) ex) mc ms (va_A (va_pl L f) sz)
def Xv (l : Launch) (y : MethodName) (ws : List Cond) (rm : Room) (g : GE) (L : List Nat) (f : Nat → va_E) (av : List Value) (post : PE → Prop) (ex : String → PE → Prop) (mc ms : Nat) : Prop :=
  ∀ sz : Nat, vx_Met l y ws rm (va_Pc av (Pre g L f sz)) (va_Qv (S := PE) post (Bw g (va_A (va_pl L f) sz)) (va_A (va_pl L f) sz)) (Bx g (va_A (va_pl L f) sz) ex) mc ms (va_A (va_pl L f) sz)
def Xq (l : Launch) (y : MethodName) (ws : List Cond) (rm : Room) (g : GE) (L : List Nat) (f : Nat → va_E) (av : List Value) (post : Option Nat → PE → Prop) (ex : String → PE → Prop) (mc ms : Nat) : Prop :=
  ∀ sz : Nat, vx_Met l y ws rm (va_Pc av (Pre g L f sz)) (va_Qq (S := PE) post (Bw g (va_A (va_pl L f) sz)) (va_A (va_pl L f) sz)) (Bx g (va_A (va_pl L f) sz) ex) mc ms (va_A (va_pl L f) sz)
variable {p : Program} {l : Launch} {e : Env} {R : Room} {s : State} {m : MethodId} {args : Array Value} {below : List Frame} {meth : Method} {c : Code} {H : Heap} {locs : List Loc} {cells slots : Nat} {Q : State → Prop}
variable {cc : ByteArray} {pc : Nat} {ls : Array Slot} {rest : List Value} {g : GE} {A : Nat → Prop} {L : List Nat} {f : Nat → va_E} {a : Nat} {D : va_G}
theorem pm_k (f : Nat → va_E) (h : a ∈ L) : ∃ k : Nat, (va_pl L f)[k]? = some (a, f a) := va_pl_get (X := []) h
theorem pm_set {e : va_E} {k : Nat} (hD : va_D A (va_pl L f)) (h : a ∈ L) (hk : (va_pl L f)[k]? = some (a, f a)) : (va_pl L f).set k (a, e) = va_pl L (va_up f a e) := va_pl_set (X := []) hD h hk
theorem pm_free (hw : PW g A s H locs L f) : ∀ q, va_A (va_pl L f) H.size q → A q := by
  rintro q (⟨k, e, hk⟩ | h)
  · exact hw.2.2.1.2 k _ hk
  · exact hw.2.2.2.2 q (Nat.le_trans hw.2.2.2.1.1 h)
theorem pm_self (hD : va_D (fun _ => True) (va_pl L f)) (sz : Nat) : va_D (va_A (va_pl L f) sz) (va_pl L f) := ⟨hD.1, fun k q hk => Or.inl ⟨k, q.2, hk⟩⟩
theorem pm_begin {sz : Nat} (h : Pre g L f sz s) : sz = s.heap.size ∧ PW g (va_A (va_pl L f) s.heap.size) s s.heap [] L f ∧ Sx g (va_A (va_pl L f) s.heap.size) s s.heap := by
  obtain ⟨rfl, hP, hK, hD, hs⟩ := h
  exact ⟨rfl, ⟨hK, hP, pm_self hD _, va_S.rf, fun q h => Or.inr h⟩, hs⟩
theorem pm_sx (hw : PW g A s H locs L f) (hs : Sx g A s s.heap) {U : State} (hU : U.heap = H) (hW : s.WarmedH U.vm) : Sx g (va_A (va_pl L f) H.size) U U.heap := by
  rw [hU]
  exact ⟨(((hs.1.kept (fun a h1 h2 => hw.2.2.2.1.2.1 a h1 h2)).narrow (pm_free hw)).moved hW.alike), hs.2.warm hW⟩
theorem pm_pre (hw : PW g A s H locs L f) (hs : Sx g A s s.heap) {U : State} (hU : U.heap = H) (hW : s.WarmedH U.vm) : Pre g L f H.size U :=
  ⟨by rw [hU], by rw [hU]; exact hw.2.1, va_K.moved hW.alike hw.1, ⟨hw.2.2.1.1, fun _ _ _ => trivial⟩, pm_sx hw hs hU hW⟩
theorem pm_blind {av : List Value} {sz : Nat} : FrameBlind (va_Pc av (Pre g L f sz)) := by
  intro a U q mk h
  obtain ⟨h0, h1, h2, h3, h4, h5⟩ := h
  exact ⟨h0, h1, h2, va_K.moved (u := U) (U := U.calling q mk a) (Vm.Alike.refl U.vm) h3, h4, h5.1.moved (u := U) (U := U.calling q mk a) (Vm.Alike.refl U.vm), SxU.same (s := U) (U := U.calling q mk a) rfl h5.2⟩
theorem pm_recv (hw : PW g A s H locs L f) {fs : List Value} {i : Nat} {q : vw_C} (hq : a ∈ L) (hf : f a = .inr (i, fs)) (hc : vwCl[i]? = some q) : ∃ cell : Cell, H[a]? = some cell ∧ cell.vm.isStatics = false ∧ s.vm.findClass q.1 = some cell.cls := by
  obtain ⟨k, hk⟩ := pm_k f hq
  rw [hf] at hk
  exact va_recv hw.1 hw.2.1 hc hk
theorem pm_preV {C : String} {b : Addr} {As : List Value} (hw : PW g A s H locs L f) (hs : Sx g A s s.heap) (hr : ∃ cell : Cell, H[b]? = some cell ∧ cell.vm.isStatics = false ∧ s.vm.findClass C = some cell.cls) : PreV s H C b (va_Pc (.ref b :: As) (Pre g L f H.size)) As :=
  ⟨pm_blind, hr, fun _ hU hW => ⟨rfl, pm_pre hw hs hU hW⟩⟩
theorem pm_preS {As : List Value} (hw : PW g A s H locs L f) (hs : Sx g A s s.heap) : PreS s H (va_Pc As (Pre g L f H.size)) As :=
  ⟨pm_blind, fun _ hU hW => ⟨rfl, pm_pre hw hs hU hW⟩⟩
theorem pm_after {u : PE} {t : State} {H1 : Heap} {locs1 : List Loc} (hw : PW g A s H locs L f) (ht : t.heap = H1) (hvm : s.vm.Alike t.vm) (hB : Bw g (va_A (va_pl L f) H.size) u t) (hS : va_S A s.heap H1 locs1) : PW g A s H1 locs1 u.1 u.2 :=
  ⟨hw.1, by rw [← ht]; exact hB.1, ⟨hB.2.2.1, fun k q hk => pm_free hw _ (hB.2.2.2 k q hk)⟩, hS, hw.2.2.2.2⟩
section CALLS
variable {mc ms : Nat} {st0 : List Value} {aa : Array Value}
theorem pc_i {post : Int32 → PE → Prop} (hw : PW g A s H locs L f) (hr : va_Run p l e R s m args below meth c H locs cells slots mc ms (F0 m pc ls st0) rest (va_Qi (S := PE) post (Bw g (va_A (va_pl L f) H.size)) (va_A (va_pl L f) H.size) aa) (va_A (va_pl L f) H.size))
    (kk : ∀ (r : Int32) (L1 : List Nat) (f1 : Nat → va_E) (H1 : Heap) (locs1 : List Loc), post r (L1, f1) → PW g A s H1 locs1 L1 f1 → W p l e R s m args below meth c H1 locs1 (cells + mc) (slots + ms) Q (F0 m (pc + 3) ls (.int r :: rest))) : W p l e R s m args below meth c H locs cells slots Q (F0 m pc ls st0) :=
  va_calli hr hw.2.2.2.1 (fun q _ h => pm_free hw q h) (pm_free hw) (fun r u t H1 locs1 ht hvm hp hB _ _ hS => kk r u.1 u.2 H1 locs1 hp (pm_after hw ht hvm hB hS))
theorem pc_v {post : PE → Prop} (hw : PW g A s H locs L f) (hr : va_Run p l e R s m args below meth c H locs cells slots mc ms (F0 m pc ls st0) rest (va_Qv (S := PE) post (Bw g (va_A (va_pl L f) H.size)) (va_A (va_pl L f) H.size) aa) (va_A (va_pl L f) H.size))
    (kk : ∀ (L1 : List Nat) (f1 : Nat → va_E) (H1 : Heap) (locs1 : List Loc), post (L1, f1) → PW g A s H1 locs1 L1 f1 → W p l e R s m args below meth c H1 locs1 (cells + mc) (slots + ms) Q (F0 m (pc + 3) ls rest)) : W p l e R s m args below meth c H locs cells slots Q (F0 m pc ls st0) :=
  va_callv hr hw.2.2.2.1 (fun q _ h => pm_free hw q h) (pm_free hw) (fun u t H1 locs1 ht hvm hp hB _ _ hS => kk u.1 u.2 H1 locs1 hp (pm_after hw ht hvm hB hS))
theorem pc_q {post : Option Nat → PE → Prop} (hw : PW g A s H locs L f) (hr : va_Run p l e R s m args below meth c H locs cells slots mc ms (F0 m pc ls st0) rest (va_Qq (S := PE) post (Bw g (va_A (va_pl L f) H.size)) (va_A (va_pl L f) H.size) aa) (va_A (va_pl L f) H.size))
    (kk : ∀ (r : Option Nat) (L1 : List Nat) (f1 : Nat → va_E) (H1 : Heap) (locs1 : List Loc), post r (L1, f1) → PW g A s H1 locs1 L1 f1 → W p l e R s m args below meth c H1 locs1 (cells + mc) (slots + ms) Q (F0 m (pc + 3) ls (va_rf r :: rest))) : W p l e R s m args below meth c H locs cells slots Q (F0 m pc ls st0) :=
  va_callq hr hw.2.2.2.1 (fun q _ h => pm_free hw q h) (pm_free hw) (fun r u t H1 locs1 ht hvm hp hB _ _ hS => kk r u.1 u.2 H1 locs1 hp (pm_after hw ht hvm hB hS))
theorem pc_Fi {post : Int32 → PE → Prop} (hw : PW g A s H locs L f) (hr : va_Run5 p l e R s m args below meth c H locs cells slots mc ms (F0 m pc ls st0) rest (va_Qi (S := PE) post (Bw g (va_A (va_pl L f) H.size)) (va_A (va_pl L f) H.size) aa) (va_A (va_pl L f) H.size))
    (kk : ∀ (r : Int32) (L1 : List Nat) (f1 : Nat → va_E) (H1 : Heap) (locs1 : List Loc), post r (L1, f1) → PW g A s H1 locs1 L1 f1 → W p l e R s m args below meth c H1 locs1 (cells + mc) (slots + ms) Q (F0 m (pc + 5) ls (.int r :: rest))) : W p l e R s m args below meth c H locs cells slots Q (F0 m pc ls st0) :=
  va_callFi hr hw.2.2.2.1 (fun q _ h => pm_free hw q h) (pm_free hw) (fun r u t H1 locs1 ht hvm hp hB _ _ hS => kk r u.1 u.2 H1 locs1 hp (pm_after hw ht hvm hB hS))
theorem pc_Fv {post : PE → Prop} (hw : PW g A s H locs L f) (hr : va_Run5 p l e R s m args below meth c H locs cells slots mc ms (F0 m pc ls st0) rest (va_Qv (S := PE) post (Bw g (va_A (va_pl L f) H.size)) (va_A (va_pl L f) H.size) aa) (va_A (va_pl L f) H.size))
    (kk : ∀ (L1 : List Nat) (f1 : Nat → va_E) (H1 : Heap) (locs1 : List Loc), post (L1, f1) → PW g A s H1 locs1 L1 f1 → W p l e R s m args below meth c H1 locs1 (cells + mc) (slots + ms) Q (F0 m (pc + 5) ls rest)) : W p l e R s m args below meth c H locs cells slots Q (F0 m pc ls st0) :=
  va_callFv hr hw.2.2.2.1 (fun q _ h => pm_free hw q h) (pm_free hw) (fun u t H1 locs1 ht hvm hp hB _ _ hS => kk u.1 u.2 H1 locs1 hp (pm_after hw ht hvm hB hS))
theorem pc_Fq {post : Option Nat → PE → Prop} (hw : PW g A s H locs L f) (hr : va_Run5 p l e R s m args below meth c H locs cells slots mc ms (F0 m pc ls st0) rest (va_Qq (S := PE) post (Bw g (va_A (va_pl L f) H.size)) (va_A (va_pl L f) H.size) aa) (va_A (va_pl L f) H.size))
    (kk : ∀ (r : Option Nat) (L1 : List Nat) (f1 : Nat → va_E) (H1 : Heap) (locs1 : List Loc), post r (L1, f1) → PW g A s H1 locs1 L1 f1 → W p l e R s m args below meth c H1 locs1 (cells + mc) (slots + ms) Q (F0 m (pc + 5) ls (va_rf r :: rest))) : W p l e R s m args below meth c H locs cells slots Q (F0 m pc ls st0) :=
  va_callFq hr hw.2.2.2.1 (fun q _ h => pm_free hw q h) (pm_free hw) (fun r u t H1 locs1 ht hvm hp hB _ _ hS => kk r u.1 u.2 H1 locs1 hp (pm_after hw ht hvm hB hS))
theorem px_out {Qc : Array Value → State → Outcome → State → Prop} {mc0 ms0 : Nat} {ex0 : String → PE → Prop} {E : String} {ce : Cell} {q9 : Addr} (hw : PW g A s H locs L f) (htab : ∀ x ∈ c.exceptionTable.toList, False) (hlocks : meth.locks = false) (hm : cells ≤ mc0 ∧ slots ≤ ms0) (hx : ex0 E (L, f)) (h1 : H[q9]? = some ce) (h2 : ce.vm = .none) (h3 : s.vm.findClass E = some ce.cls) :
    vx_W p l e R s m args below meth c H locs cells slots (vx_MQ below Qc (Bx g A ex0) args s mc0 ms0 A) (F0 m pc ls rest) q9 :=
  vx_out (fun x h => (htab x h).elim) hlocks h1 h2 h3 (fun t ht hvm => ⟨(L, f), trivial, ⟨hx, by rw [ht]; exact hw.2.1, va_K.moved hvm hw.1, hw.2.2.1⟩, by rw [ht]; exact hw.2.2.2.1.1, fun q hq hA => by rw [ht]; exact hw.2.2.2.1.2.1 q hq hA⟩) hw.2.2.2.1.2.2 hm.1 hm.2
theorem px_ic {post : Int32 → PE → Prop} {ex : String → PE → Prop} (hw : PW g A s H locs L f) (hr : vx_Run p l e R s m args below meth c H locs cells slots mc ms (F0 m pc ls st0) rest (va_Qi (S := PE) post (Bw g (va_A (va_pl L f) H.size)) (va_A (va_pl L f) H.size) aa) (Bx g (va_A (va_pl L f) H.size) ex) (va_A (va_pl L f) H.size))
    (kx : ∀ (E : String) (ce : Cell) (q9 : Addr) (L1 : List Nat) (f1 : Nat → va_E) (H1 : Heap) (locs1 : List Loc), ex E (L1, f1) → PW g A s H1 locs1 L1 f1 → H1[q9]? = some ce → ce.vm = .none → s.vm.findClass E = some ce.cls → vx_W p l e R s m args below meth c H1 locs1 (cells + mc) (slots + ms) Q (F0 m pc ls rest) q9)
    (kk : ∀ (r : Int32) (L1 : List Nat) (f1 : Nat → va_E) (H1 : Heap) (locs1 : List Loc), post r (L1, f1) → PW g A s H1 locs1 L1 f1 → W p l e R s m args below meth c H1 locs1 (cells + mc) (slots + ms) Q (F0 m (pc + 3) ls (.int r :: rest))) : W p l e R s m args below meth c H locs cells slots Q (F0 m pc ls st0) :=
  vx_calli hr hw.2.2.2.1 (fun q _ h => pm_free hw q h) (pm_free hw) (fun q _ h => pm_free hw q h) (fun E ce q9 u t H1 locs1 ht hvm _ hB _ _ hS h1 h2 h3 => kx E ce q9 u.1 u.2 H1 locs1 hB.1 (pm_after hw ht hvm hB.2 hS) h1 h2 h3) (fun r u t H1 locs1 ht hvm hp hB _ _ hS => kk r u.1 u.2 H1 locs1 hp (pm_after hw ht hvm hB hS))
theorem px_i {Qc : Array Value → State → Outcome → State → Prop} {mc0 ms0 : Nat} {post : Int32 → PE → Prop} {ex ex0 : String → PE → Prop} (hw : PW g A s H locs L f) (hr : vx_Run p l e R s m args below meth c H locs cells slots mc ms (F0 m pc ls st0) rest (va_Qi (S := PE) post (Bw g (va_A (va_pl L f) H.size)) (va_A (va_pl L f) H.size) aa) (Bx g (va_A (va_pl L f) H.size) ex) (va_A (va_pl L f) H.size))
    (htab : ∀ x ∈ c.exceptionTable.toList, False) (hlocks : meth.locks = false) (hm : cells + mc ≤ mc0 ∧ slots + ms ≤ ms0) (hx : ∀ (E : String) (u : PE), ex E u → ex0 E u)
    (kk : ∀ (r : Int32) (L1 : List Nat) (f1 : Nat → va_E) (H1 : Heap) (locs1 : List Loc), post r (L1, f1) → PW g A s H1 locs1 L1 f1 → W p l e R s m args below meth c H1 locs1 (cells + mc) (slots + ms) (vx_MQ below Qc (Bx g A ex0) args s mc0 ms0 A) (F0 m (pc + 3) ls (.int r :: rest))) : W p l e R s m args below meth c H locs cells slots (vx_MQ below Qc (Bx g A ex0) args s mc0 ms0 A) (F0 m pc ls st0) :=
  px_ic hw hr (fun E ce q9 L1 f1 H1 locs1 he hw1 h1 h2 h3 => px_out hw1 htab hlocks hm (hx E (L1, f1) he) h1 h2 h3) kk
theorem px_vc {post : PE → Prop} {ex : String → PE → Prop} (hw : PW g A s H locs L f) (hr : vx_Run p l e R s m args below meth c H locs cells slots mc ms (F0 m pc ls st0) rest (va_Qv (S := PE) post (Bw g (va_A (va_pl L f) H.size)) (va_A (va_pl L f) H.size) aa) (Bx g (va_A (va_pl L f) H.size) ex) (va_A (va_pl L f) H.size))
    (kx : ∀ (E : String) (ce : Cell) (q9 : Addr) (L1 : List Nat) (f1 : Nat → va_E) (H1 : Heap) (locs1 : List Loc), ex E (L1, f1) → PW g A s H1 locs1 L1 f1 → H1[q9]? = some ce → ce.vm = .none → s.vm.findClass E = some ce.cls → vx_W p l e R s m args below meth c H1 locs1 (cells + mc) (slots + ms) Q (F0 m pc ls rest) q9)
    (kk : ∀ (L1 : List Nat) (f1 : Nat → va_E) (H1 : Heap) (locs1 : List Loc), post (L1, f1) → PW g A s H1 locs1 L1 f1 → W p l e R s m args below meth c H1 locs1 (cells + mc) (slots + ms) Q (F0 m (pc + 3) ls rest)) : W p l e R s m args below meth c H locs cells slots Q (F0 m pc ls st0) :=
  vx_callv hr hw.2.2.2.1 (fun q _ h => pm_free hw q h) (pm_free hw) (fun q _ h => pm_free hw q h) (fun E ce q9 u t H1 locs1 ht hvm _ hB _ _ hS h1 h2 h3 => kx E ce q9 u.1 u.2 H1 locs1 hB.1 (pm_after hw ht hvm hB.2 hS) h1 h2 h3) (fun u t H1 locs1 ht hvm hp hB _ _ hS => kk u.1 u.2 H1 locs1 hp (pm_after hw ht hvm hB hS))
theorem px_v {Qc : Array Value → State → Outcome → State → Prop} {mc0 ms0 : Nat} {post : PE → Prop} {ex ex0 : String → PE → Prop} (hw : PW g A s H locs L f) (hr : vx_Run p l e R s m args below meth c H locs cells slots mc ms (F0 m pc ls st0) rest (va_Qv (S := PE) post (Bw g (va_A (va_pl L f) H.size)) (va_A (va_pl L f) H.size) aa) (Bx g (va_A (va_pl L f) H.size) ex) (va_A (va_pl L f) H.size))
    (htab : ∀ x ∈ c.exceptionTable.toList, False) (hlocks : meth.locks = false) (hm : cells + mc ≤ mc0 ∧ slots + ms ≤ ms0) (hx : ∀ (E : String) (u : PE), ex E u → ex0 E u)
    (kk : ∀ (L1 : List Nat) (f1 : Nat → va_E) (H1 : Heap) (locs1 : List Loc), post (L1, f1) → PW g A s H1 locs1 L1 f1 → W p l e R s m args below meth c H1 locs1 (cells + mc) (slots + ms) (vx_MQ below Qc (Bx g A ex0) args s mc0 ms0 A) (F0 m (pc + 3) ls rest)) : W p l e R s m args below meth c H locs cells slots (vx_MQ below Qc (Bx g A ex0) args s mc0 ms0 A) (F0 m pc ls st0) :=
  px_vc hw hr (fun E ce q9 L1 f1 H1 locs1 he hw1 h1 h2 h3 => px_out hw1 htab hlocks hm (hx E (L1, f1) he) h1 h2 h3) kk
end CALLS
/-- ends -/
theorem pr_fin {v : Option Value} (hw : PW g A s H locs L f) {t : State} (ht : t.heap = H) (hW : s.vm.Alike t.vm) : Bw g A (L, f) t ∧ va_F A s t :=
  ⟨⟨by rw [ht]; exact hw.2.1, va_K.moved hW hw.1, hw.2.2.1⟩, by rw [ht]; exact hw.2.2.2.1.1, fun q hq hA => by rw [ht]; exact hw.2.2.2.1.2.1 q hq hA⟩
theorem pr_i {post : Int32 → PE → Prop} {v : Int32} {mc ms : Nat} {ty : FieldType} (hx : p.tables.exec = Jvm.exec) (hb : c.code = cc) (hr : meth.sig.returnType = some ty) (hlocks : meth.locks = false) (hw : PW g A s H locs L f) (hn : narrow ty (.int v) = .int v) (hm : cells ≤ mc ∧ slots ≤ ms) (hp : post v (L, f)) (hdg : decode cc pc = .ok (.ireturn, 1)) :
    W p l e R s m args below meth c H locs cells slots (MQ below (va_Qi (S := PE) post (Bw g A) A) args s mc ms A) (F0 m pc ls [.int v]) :=
  W.widen hm.1 hm.2 (W.zret hx hb hr hn (fun t ht hW => ⟨⟨v, (L, f), rfl, hp, (pr_fin (v := none) hw ht hW.alike).1⟩, (pr_fin (v := none) hw ht hW.alike).2⟩) hw.2.2.2.1.2.2 hdg hlocks)
theorem pr_v {post : PE → Prop} {mc ms : Nat} (hx : p.tables.exec = Jvm.exec) (hb : c.code = cc) (hr : meth.sig.returnType = none) (hlocks : meth.locks = false) (hw : PW g A s H locs L f) (hm : cells ≤ mc ∧ slots ≤ ms) (hp : post (L, f)) (hdg : decode cc pc = .ok (.return_, 1)) :
    W p l e R s m args below meth c H locs cells slots (MQ below (va_Qv (S := PE) post (Bw g A) A) args s mc ms A) (F0 m pc ls []) :=
  W.widen hm.1 hm.2 (W.vret hx hb hr (fun t ht hW => ⟨⟨(L, f), rfl, hp, (pr_fin (v := none) hw ht hW.alike).1⟩, (pr_fin (v := none) hw ht hW.alike).2⟩) hw.2.2.2.1.2.2 hdg hlocks)
theorem pr_q {post : Option Nat → PE → Prop} {v : Option Nat} {mc ms : Nat} {ty : FieldType} (hx : p.tables.exec = Jvm.exec) (hb : c.code = cc) (hr : meth.sig.returnType = some ty) (hlocks : meth.locks = false) (hrt : (∃ n, ty = .object n) ∨ ∃ t, ty = .array t) (hw : PW g A s H locs L f) (hm : cells ≤ mc ∧ slots ≤ ms) (hp : post v (L, f)) (hdg : decode cc pc = .ok (.areturn, 1)) :
    W p l e R s m args below meth c H locs cells slots (MQ below (va_Qq (S := PE) post (Bw g A) A) args s mc ms A) (F0 m pc ls [va_rf v]) :=
  W.widen hm.1 hm.2 (W.aret hx hb hr hrt (by cases v with | none => exact Or.inl rfl | some x => exact Or.inr ⟨x, rfl⟩) (fun t ht hW => ⟨⟨v, (L, f), rfl, hp, (pr_fin (v := none) hw ht hW.alike).1⟩, (pr_fin (v := none) hw ht hW.alike).2⟩) hw.2.2.2.1.2.2 hdg hlocks)
theorem pr_r {post : Option Nat → PE → Prop} {v : Nat} {mc ms : Nat} {ty : FieldType} (hx : p.tables.exec = Jvm.exec) (hb : c.code = cc) (hr : meth.sig.returnType = some ty) (hlocks : meth.locks = false) (hrt : (∃ n, ty = .object n) ∨ ∃ t, ty = .array t) (hw : PW g A s H locs L f) (hm : cells ≤ mc ∧ slots ≤ ms) (hp : post (some v) (L, f)) (hdg : decode cc pc = .ok (.areturn, 1)) :
    W p l e R s m args below meth c H locs cells slots (MQ below (va_Qq (S := PE) post (Bw g A) A) args s mc ms A) (F0 m pc ls [.ref v]) := pr_q (v := some v) hx hb hr hlocks hrt hw hm hp hdg
/-- the world's cells -/
theorem pm_get (hx : p.tables.exec = Jvm.exec) (hb : c.code = cc) {own ref C : String} {T : u_T} {N ci index : Nat} {Ts : List Cond} (hts : ∀ w ∈ Ts, w.before args s = true) (hin : ∀ w ∈ u_ws C T N, w ∈ Ts) (hown : s.vm.findClass own = some m.cls) (hw : PW g A s H locs L f) {fs : List Value} (hq : a ∈ L) (hf : f a = .inr (ci, fs)) (hc : vwCl[ci]? = some (C, T, N)) (k : Nat) (hk : k < N) (hlink : (Cond.fieldLink own index ref (T k).2.1 (T k).2.2.1).before args s = true) (hsame : ∀ x, s.fieldFound? (T k).1 (T k).2.1 (T k).2.2.1 = some x → s.fieldFound? ref (T k).2.1 (T k).2.2.1 = some x) {v : Value} (hv : fs[k]? = some v) (hdg : decode cc pc = .ok (.getfield index, 3))
    (kk : W p l e R s m args below meth c H locs cells slots Q (F0 m (pc + 3) ls (v :: rest))) : W p l e R s m args below meth c H locs cells slots Q (F0 m pc ls (.ref a :: rest)) := by
  obtain ⟨k0, hk0⟩ := pm_k f hq
  rw [hf] at hk0
  exact va_get hx hb hts hin hown hw.1 hw.2.1 k0 hk0 hc k hk hlink hsame hv hdg kk
theorem pm_put (hx : p.tables.exec = Jvm.exec) (hb : c.code = cc) {own ref C : String} {T : u_T} {N ci index : Nat} {Ts : List Cond} (hts : ∀ w ∈ Ts, w.before args s = true) (hin : ∀ w ∈ u_ws C T N, w ∈ Ts) (ty0 : Nat → FieldType) (hty : ∀ k, k < N → parseFieldDescriptor (T k).2.2.1 = some (ty0 k)) (hnm : ∀ a, a < N → ∀ b, b < N → a ≠ b → (T a).2.1 ≠ (T b).2.1) (hown : s.vm.findClass own = some m.cls) (hw : PW g A s H locs L f) {fs : List Value} (hq : a ∈ L) (hf : f a = .inr (ci, fs)) (hc : vwCl[ci]? = some (C, T, N)) (k : Nat) (hk : k < N) (hlink : (Cond.fieldLink own index ref (T k).2.1 (T k).2.2.1).before args s = true) (hsame : ∀ x, s.fieldFound? (T k).1 (T k).2.1 (T k).2.2.1 = some x → s.fieldFound? ref (T k).2.1 (T k).2.2.1 = some x) (hfin : (T k).2.2.2 = false) {ty : FieldType} {v : Value} (hd : parseFieldDescriptor (T k).2.2.1 = some ty) (hn : narrow ty v = v) (hfit : fits ty v = true) (hl : k < fs.length)
    (hdg : decode cc pc = .ok (.putfield index, 3)) (kk : ∀ (H1 : Heap) (locs1 : List Loc), PW g A s H1 locs1 L (va_up f a (.inr (ci, fs.set k v))) → W p l e R s m args below meth c H1 locs1 cells slots Q (F0 m (pc + 3) ls rest)) : W p l e R s m args below meth c H locs cells slots Q (F0 m pc ls (v :: .ref a :: rest)) := by
  obtain ⟨k0, hk0⟩ := pm_k f hq
  have hs := fun e => pm_set (e := e) hw.2.2.1 hq hk0
  rw [hf] at hk0
  refine va_put hx hb hts hin ty0 hty hnm hown hw.1 hw.2.1 hw.2.2.1 hw.2.2.2.1 k0 hk0 hc k hk hlink hsame hfin hd hn hfit hl hdg (fun H1 locs1 hP hD hS => kk H1 locs1 ⟨hw.1, ?_, ?_, hS, hw.2.2.2.2⟩)
  · rw [← hs]; exact hP
  · rw [← hs]; exact hD
theorem pm_putF (hx : p.tables.exec = Jvm.exec) (hb : c.code = cc) {own ref C : String} {T : u_T} {N ci index : Nat} {Ts : List Cond} (hts : ∀ w ∈ Ts, w.before args s = true) (hin : ∀ w ∈ u_ws C T N, w ∈ Ts) (ty0 : Nat → FieldType) (hty : ∀ k, k < N → parseFieldDescriptor (T k).2.2.1 = some (ty0 k)) (hnm : ∀ a, a < N → ∀ b, b < N → a ≠ b → (T a).2.1 ≠ (T b).2.1) (hown : s.vm.findClass own = some m.cls) (hw : PW g A s H locs L f) {fs : List Value} (hq : a ∈ L) (hf : f a = .inr (ci, fs)) (hc : vwCl[ci]? = some (C, T, N)) (k : Nat) (hk : k < N) (hlink : (Cond.fieldLink own index ref (T k).2.1 (T k).2.2.1).before args s = true) (hsame : ∀ x, s.fieldFound? (T k).1 (T k).2.1 (T k).2.2.1 = some x → s.fieldFound? ref (T k).2.1 (T k).2.2.1 = some x) (hfin : (T k).2.2.2 = true) (hin2 : meth.name = "<init>") (hdecl : (T k).1 = own) {ty : FieldType} {v : Value} (hd : parseFieldDescriptor (T k).2.2.1 = some ty) (hn : narrow ty v = v) (hfit : fits ty v = true) (hl : k < fs.length)
    (hdg : decode cc pc = .ok (.putfield index, 3)) (kk : ∀ (H1 : Heap) (locs1 : List Loc), PW g A s H1 locs1 L (va_up f a (.inr (ci, fs.set k v))) → W p l e R s m args below meth c H1 locs1 cells slots Q (F0 m (pc + 3) ls rest)) : W p l e R s m args below meth c H locs cells slots Q (F0 m pc ls (v :: .ref a :: rest)) := by
  obtain ⟨k0, hk0⟩ := pm_k f hq
  have hs := fun e => pm_set (e := e) hw.2.2.1 hq hk0
  rw [hf] at hk0
  refine va_putF hx hb hts hin ty0 hty hnm hown hw.1 hw.2.1 hw.2.2.1 hw.2.2.2.1 k0 hk0 hc k hk hlink hsame hfin hin2 hdecl hd hn hfit hl hdg (fun H1 locs1 hP hD hS => kk H1 locs1 ⟨hw.1, ?_, ?_, hS, hw.2.2.2.2⟩)
  · rw [← hs]; exact hP
  · rw [← hs]; exact hD
theorem pm_iald (hx : p.tables.exec = Jvm.exec) (hb : c.code = cc) (hw : PW g A s H locs L f) {n : Nat} {r : Nat → Int32} (hq : a ∈ L) (hf : f a = .inl (g.2.1 0, n, .inl r)) {i : Int32} {j : Nat} (hj : i.toNatClampNeg = j) (hin : vp_in i n) (hdg : decode cc pc = .ok (.iaload, 1))
    (kk : W p l e R s m args below meth c H locs cells slots Q (F0 m (pc + 1) ls (.int (r j) :: rest))) : W p l e R s m args below meth c H locs cells slots Q (F0 m pc ls (.int i :: .ref a :: rest)) := by
  subst hj
  obtain ⟨k0, hk0⟩ := pm_k f hq
  rw [hf] at hk0
  exact va_iald hx hb hw.1 hw.2.1 k0 0 hk0 rfl hin hdg kk
theorem pm_aald (hx : p.tables.exec = Jvm.exec) (hb : c.code = cc) (hw : PW g A s H locs L f) {n : Nat} {r : Nat → Option Nat} (hq : a ∈ L) (hf : f a = .inl (g.2.1 2, n, .inr (.inr (.inr (.inr r))))) {i : Int32} {j : Nat} (hj : i.toNatClampNeg = j) (hin : vp_in i n) (hdg : decode cc pc = .ok (.aaload, 1))
    (kk : W p l e R s m args below meth c H locs cells slots Q (F0 m (pc + 1) ls (va_rf (r j) :: rest))) : W p l e R s m args below meth c H locs cells slots Q (F0 m pc ls (.int i :: .ref a :: rest)) := by
  subst hj
  obtain ⟨k0, hk0⟩ := pm_k f hq
  rw [hf] at hk0
  exact va_aldq hx hb hw.1 hw.2.1 k0 2 hk0 rfl hin hdg kk
theorem pm_rald (hx : p.tables.exec = Jvm.exec) (hb : c.code = cc) (hw : PW g A s H locs L f) {n : Nat} {r : Nat → Option Nat} (hq : a ∈ L) (hf : f a = .inl (g.2.1 3, n, .inr (.inr (.inr (.inr r))))) {i : Int32} {j : Nat} (hj : i.toNatClampNeg = j) (hin : vp_in i n) (hdg : decode cc pc = .ok (.aaload, 1))
    (kk : W p l e R s m args below meth c H locs cells slots Q (F0 m (pc + 1) ls (va_rf (r j) :: rest))) : W p l e R s m args below meth c H locs cells slots Q (F0 m pc ls (.int i :: .ref a :: rest)) := by
  subst hj
  obtain ⟨k0, hk0⟩ := pm_k f hq
  rw [hf] at hk0
  have hlt : i.toNatClampNeg < n := Nat.not_le.mp fun q => hin (Or.inr q)
  exact W.aald (v := va_rf (r i.toNatClampNeg)) (ty := .array .int) hx hb (hw.2.1 k0 _ hk0) ((hw.1.2 3 _ rfl).1 n (fun j => va_rf (r j))) rfl (fun q => by cases q) (by show ¬ (i < 0 ∨ (arrV _ _ _).slots.size ≤ _); rw [arrV_size]; exact hin) (by show (arrV _ _ _).slots[_]? = _; rw [arrV_read _ _ hlt]) rfl rfl hdg kk
theorem pm_ilen (hx : p.tables.exec = Jvm.exec) (hb : c.code = cc) (hw : PW g A s H locs L f) (t0 : Nat) {cA : ClassId} {ty : FieldType} {y : vp_A} (hq : a ∈ L) (hf : f a = .inl (cA, y)) (ht : (tysOf g)[t0]? = some (cA, ty)) {v : Int32} (hv : Int32.ofNat y.1 = v) (hdg : decode cc pc = .ok (.arraylength, 1))
    (kk : W p l e R s m args below meth c H locs cells slots Q (F0 m (pc + 1) ls (.int v :: rest))) : W p l e R s m args below meth c H locs cells slots Q (F0 m pc ls (.ref a :: rest)) := by
  obtain ⟨k0, hk0⟩ := pm_k f hq
  rw [hf] at hk0
  exact va_alen hx hb hw.1 hw.2.1 k0 t0 hk0 ht hv hdg kk
theorem pm_iast (hx : p.tables.exec = Jvm.exec) (hb : c.code = cc) (hw : PW g A s H locs L f) {n : Nat} {r : Nat → Int32} (hq : a ∈ L) (hf : f a = .inl (g.2.1 0, n, .inl r)) {i x : Int32} {j : Nat} (hj : i.toNatClampNeg = j) (hin : vp_in i n) (hdg : decode cc pc = .ok (.iastore, 1))
    (kk : ∀ (H1 : Heap) (locs1 : List Loc), PW g A s H1 locs1 L (va_up f a (.inl (g.2.1 0, n, .inl (upd r j x)))) → W p l e R s m args below meth c H1 locs1 cells slots Q (F0 m (pc + 1) ls rest)) : W p l e R s m args below meth c H locs cells slots Q (F0 m pc ls (.int x :: .int i :: .ref a :: rest)) := by
  subst hj
  obtain ⟨k0, hk0⟩ := pm_k f hq
  have hs := fun e => pm_set (e := e) hw.2.2.1 hq hk0
  rw [hf] at hk0
  refine va_iast hx hb hw.1 hw.2.1 hw.2.2.1 hw.2.2.2.1 k0 0 hk0 rfl hin hdg (fun H1 locs1 hP hD hS => kk H1 locs1 ⟨hw.1, ?_, ?_, hS, hw.2.2.2.2⟩)
  · rw [← hs]; exact hP
  · rw [← hs]; exact hD
theorem pm_notin {e : va_E} (hD : va_D A (va_pl L f ++ [(a, e)])) : a ∉ L := by
  intro h
  obtain ⟨k, hk⟩ := pm_k f h
  have hlt := (List.getElem?_eq_some_iff.mp hk).1
  have h1 : (va_pl L f ++ [(a, e)])[k]? = some (a, f a) := by rw [List.getElem?_append_left hlt]; exact hk
  have h2 : (va_pl L f ++ [(a, e)])[(va_pl L f).length]? = some (a, e) := by simp
  have := hD.1 _ _ _ _ h1 h2 rfl
  omega
theorem pm_new (hx : p.tables.exec = Jvm.exec) (hb : c.code = cc) {own C : String} {T : u_T} {N ci index : Nat} {Ts : List Cond} (hts : ∀ w ∈ Ts, w.before args s = true) (hin : ∀ w ∈ u_ws C T N, w ∈ Ts) (ty : Nat → FieldType) (hty : ∀ k, k < N → parseFieldDescriptor (T k).2.2.1 = some (ty k)) (hown : s.vm.findClass own = some m.cls) (hcl : (Cond.classLink own index C).before args s = true) (hinst : (Cond.instantiable C N).before args s = true) (hini : (Cond.initialized C).before args s = true)
    (hw : PW g A s H locs L f) (hc : vwCl[ci]? = some (C, T, N)) {fs : List Value} (hfs : ∀ j, j < N → defaultValue (ty j) = vp_V fs j) (hcells : cells + 1 ≤ R.cells) (hslots : slots + N ≤ R.slots) (hdg : decode cc pc = .ok (.new index, 3))
    (kk : ∀ (q : Nat) (H1 : Heap), q ∉ L → PW g A s H1 locs (L ++ [q]) (va_up f q (.inr (ci, fs))) →
      W p l e R s m args below meth c H1 locs (cells + 1) (slots + N) Q (F0 m (pc + 3) ls (.ref q :: rest))) : W p l e R s m args below meth c H locs cells slots Q (F0 m pc ls rest) := by
  refine va_new hx hb hts hin ty hty hown hcl hinst hini hw.1 hw.2.1 hw.2.2.1 hw.2.2.2.1 hw.2.2.2.2 hc hfs hcells hslots hdg (fun q H1 hP hD hS => ?_)
  have hn := pm_notin hD
  rw [va_pl_push hn] at hP hD
  exact kk q H1 hn ⟨hw.1, hP, hD, hS, hw.2.2.2.2⟩
theorem arrV_congr (cA : ClassId) (n : Nat) {z z' : Nat → Value} (h : ∀ j, j < n → z j = z' j) : arrV cA n z = arrV cA n z' := by
  unfold arrV
  congr 2
  funext j
  exact h j.1 j.2
/-- what an array holds beyond its length doesn't matter -/
theorem pm_ext {cA : ClassId} {n : Nat} {r r' : Nat → Int32} (hw : PW g A s H locs L f) (hf : f a = .inl (cA, n, .inl r)) (h : ∀ j, j < n → r j = r' j) : PW g A s H locs L (va_up f a (.inl (cA, n, .inl r'))) := by
  refine ⟨hw.1, ?_, ⟨fun i j p q hi hj hpq => ?_, fun k q hk => ?_⟩, hw.2.2.2.1, hw.2.2.2.2⟩
  · intro k q hk
    have hk2 := hk
    simp only [va_pl, List.getElem?_map, Option.map_eq_some_iff] at hk2
    obtain ⟨b, hb, rfl⟩ := hk2
    have h0 : (va_pl L f)[k]? = some (b, f b) := by simp [va_pl, hb]
    have h1 := hw.2.1 k _ h0
    by_cases hba : b = a
    · subst hba
      rw [hf] at h1
      change H[b]? = some (vp_cell cA (n, .inl r)) at h1
      show va_at g.1 vwCl (b, va_up f b (.inl (cA, n, .inl r')) b) H
      rw [pu_s]
      show H[b]? = some (vp_cell cA (n, .inl r'))
      rw [h1]
      exact congrArg some (show arrV cA n (fun j => .int (r j)) = arrV cA n (fun j => .int (r' j)) from arrV_congr cA n (fun j hj => by rw [h j hj]))
    · show va_at g.1 vwCl (b, va_up f a _ b) H
      rw [pu_n hba rfl]
      exact h1
  · simp only [va_pl, List.getElem?_map, Option.map_eq_some_iff] at hi hj
    obtain ⟨b, hb, rfl⟩ := hi
    obtain ⟨b', hb', rfl⟩ := hj
    exact hw.2.2.1.1 i j (b, f b) (b', f b') (by simp [va_pl, hb]) (by simp [va_pl, hb']) hpq
  · simp only [va_pl, List.getElem?_map, Option.map_eq_some_iff] at hk
    obtain ⟨b, hb, rfl⟩ := hk
    exact hw.2.2.1.2 k (b, f b) (by simp [va_pl, hb])
theorem va_K_last {tys : List (ClassId × FieldType)} {cA c0 : ClassId} {ty : FieldType} {i : Nat} {U : State} (hK : va_K D vwCl (tys ++ [(cA, ty)]) U) (hi : tys[i]? = some (c0, ty)) (hty : ∀ n, ty ≠ .object n) : cA = c0 := by
  have h1 := (hK.2 tys.length (cA, ty) (by simp)).2
  have h2 := (hK.2 i (c0, ty) (by rw [List.getElem?_append_left (List.getElem?_eq_some_iff.mp hi).1]; exact hi)).2
  cases ty with
  | object n => exact absurd rfl (hty n)
  | _ => exact Option.some.inj (h1.symm.trans h2)
theorem va_K_lastO {tys : List (ClassId × FieldType)} {cA c0 : ClassId} {n : String} {i : Nat} {U : State} (hK : va_K D vwCl (tys ++ [(cA, .object n)]) U) (hi : tys[i]? = some (c0, .object n)) : cA = c0 := by
  obtain ⟨_, _, _, _, _, h1⟩ := (hK.2 tys.length (cA, .object n) (by simp)).2
  obtain ⟨_, _, _, _, _, h2⟩ := (hK.2 i (c0, .object n) (by rw [List.getElem?_append_left (List.getElem?_eq_some_iff.mp hi).1]; exact hi)).2
  exact Option.some.inj (h1.symm.trans h2)
/-- newarray of ints -/
theorem pm_newi (hx : p.tables.exec = Jvm.exec) (hb : c.code = cc) (harr : (Cond.arrayClass .int).before args s = true) (hw : PW g A s H locs L f) {n : Int32} {N' : Nat} (hn : ¬ n < 0) (hN : n.toNatClampNeg = N') (hbytes : N' * componentBytes .int ≤ 536870912) (hcells : cells + 1 ≤ R.cells) (hslots : slots + N' ≤ R.slots) (hdg : decode cc pc = .ok (.newarray .int, 2))
    (kk : ∀ (q : Nat) (H1 : Heap), q ∉ L → PW g A s H1 locs (L ++ [q]) (va_up f q (.inl (g.2.1 0, N', .inl (fun _ => 0)))) → W p l e R s m args below meth c H1 locs (cells + 1) (slots + N') Q (F0 m (pc + 2) ls (.ref q :: rest))) : W p l e R s m args below meth c H locs cells slots Q (F0 m pc ls (.int n :: rest)) := by
  refine va_newa (atype := .int) (ty := .int) (a0 := (N', .inl (fun _ => 0))) hx hb harr rfl hw.1 hw.2.1 hw.2.2.1 hw.2.2.2.1 hw.2.2.2.2 (fun _ => rfl) hn hN hbytes hcells hslots hdg (fun q cA H1 hK hP hD hS => ?_)
  obtain rfl := va_K_last hK (i := 0) rfl (fun n h => by cases h)
  have hnn := pm_notin hD
  rw [va_pl_push hnn] at hP hD
  exact kk q H1 hnn ⟨hw.1, hP, hD, hS, hw.2.2.2.2⟩
theorem W_loop {σ : Type} (I : σ → Heap → List Loc → Array Slot → Prop) (μ : σ → Nat) (x0 : σ) (h0 : I x0 H locs ls)
    (step : ∀ (x : σ) (H : Heap) (locs : List Loc) (ls : Array Slot), I x H locs ls → (∀ (y : σ) (H1 : Heap) (locs1 : List Loc) (ls1 : Array Slot), μ y < μ x → I y H1 locs1 ls1 → W p l e R s m args below meth c H1 locs1 cells slots Q (F0 m pc ls1 rest)) → W p l e R s m args below meth c H locs cells slots Q (F0 m pc ls rest)) : W p l e R s m args below meth c H locs cells slots Q (F0 m pc ls rest) := by
  have key : ∀ (n : Nat) (x : σ) (H : Heap) (locs : List Loc) (ls : Array Slot), μ x < n → I x H locs ls → W p l e R s m args below meth c H locs cells slots Q (F0 m pc ls rest) := by
    intro n
    induction n with
    | zero => intro x H locs ls h; exact absurd h (Nat.not_lt_zero _)
    | succ n ih => intro x H locs ls h hI; exact step x H locs ls hI (fun y H1 locs1 ls1 hy hI1 => ih y H1 locs1 ls1 (Nat.lt_of_lt_of_le hy (Nat.le_of_lt_succ h)) hI1)
  exact key (μ x0 + 1) x0 H locs ls (Nat.lt_succ_self _) h0
theorem px_throwS {Qc : Array Value → State → Outcome → State → Prop} {mc0 ms0 nL : Nat} {ex0 : String → PE → Prop} (hx : p.tables.exec = Jvm.exec) (hb : c.code = cc) (hst : l.stackTraces = false) {own cls text : String} {names : List String} {ik is ic : Nat}
    (hown : s.vm.findClass own = some m.cls) (hcls : Bundle.fit cls = true) (hnames : ∀ n ∈ names, Bundle.fit n = true) (hk : (Cond.classLink own ik cls).before args s = true) (hini : (Cond.initialized cls).before args s = true) (htx : (own, is, text) ∈ sx_texts) {Ts : List Cond} (hts : ∀ w ∈ Ts, w.before args s = true) (hg1 : ∀ w ∈ (vx_atS own ic cls names).filter goodWord, w ∈ Ts) (hg2 : ∀ w ∈ (vx_atS own ic cls names).filter (fun w => !goodWord w), w ∈ sx_ng cls) (hca : (cls, cls) ∈ sx_cast)
    (hgood : ∀ w ∈ Cond.classLink own ik cls :: Cond.initialized cls :: vx_atS own ic cls names, vx_ot w = true) (hs : Sx g A s s.heap) (hw : PW g A s H locs L f) (hml : c.maxLocals = nL) (hl : ls.size = nL)
    (d0 : decode cc pc = .ok (.new ik, 3)) (d3 : decode cc (pc + 3) = .ok (.dup, 1)) (d4 : decode cc (pc + 4) = .ok (.ldc is, 2)) (d6 : decode cc (pc + 6) = .ok (.invokespecial ic, 3)) (d9 : decode cc (pc + 9) = .ok (.athrow, 1))
    (htab : ∀ x ∈ c.exceptionTable.toList, False) (hlocks : meth.locks = false) (hR : names.length + 3 < R.frames ∧ (rest.map fun v => v.category).sum + (13 * (names.length + 1) + 43) ≤ R.locals ∧ cells + 1 ≤ R.cells ∧ slots + 6 ≤ R.slots) (hm : cells + 1 ≤ mc0 ∧ slots + 6 ≤ ms0) (hex : ex0 cls (L, f)) :
    W p l e R s m args below meth c H locs cells slots (vx_MQ below Qc (Bx g A ex0) args s mc0 ms0 A) (F0 m pc ls rest) := by
  obtain ⟨sa, hsa⟩ := hs.2.1 (own, is, text) htx
  refine vx_throwS hx hb hst hown hcls hnames hk hini hsa (vx_hat (fun w h => hts w (hg1 w h)) hg2 (vx_c (va_Nw.use rfl (hs.2.2.2.1 (cls, cls) hca)) (vx_c (va_Nw.use rfl (hs.2.2.2.2.1 _ (List.mem_of_getElem? (i := 0) rfl))) (vx_c (va_Nw.use rfl (hs.2.2.2.2.1 _ (List.mem_of_getElem? (i := 1) rfl))) (vx_c (va_Nw.use rfl (hs.2.2.2.2.1 _ (List.mem_of_getElem? (i := 2) rfl))) vx_n))))) hgood hs.1.2.2.1 hs.1.2.2.2 hw.2.2.2.1 (hl.trans hml.symm) d0 d3 d4 d6 d9 (fun x h => (htab x h).elim) hR.1 hR.2.1 hR.2.2.1 hR.2.2.2 hlocks (fun t hvm h1 h2 => ?_) hw.2.2.2.1.2.2 hm.1 hm.2
  refine ⟨(L, f), trivial, ⟨hex, hw.2.1.kept (fun k x hk => h2 x.1 ((hw.2.1 k x hk).lt)), va_K.moved hvm hw.1, hw.2.2.1⟩, Nat.le_trans hw.2.2.2.1.1 h1, fun q hq hA => (h2 q (Nat.lt_of_lt_of_le hq hw.2.2.2.1.1)).trans (hw.2.2.2.1.2.1 q hq hA)⟩
end PLA
