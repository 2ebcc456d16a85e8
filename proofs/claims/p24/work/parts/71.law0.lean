/-! the law's rows: longs, a contract that catches -/
section LAW0
variable {p : Program} {l : Launch} {e : Env} {R : Room} {s : State} {m : MethodId} {args : Array Value} {below : List Frame} {meth : Method} {c : Code} {H : Heap} {locs : List Loc} {cells slots : Nat} {Q : State → Prop}
variable {cc : ByteArray} {pc : Nat} {ls : Array Slot} {rest : List Value} {g : GE} {A : Nat → Prop} {L : List Nat} {f : Nat → va_E} {a : Nat}
variable {mc ms : Nat} {st0 : List Value} {aa : Array Value}
/-- which of the three exceptions is none of which other -/
def sx_nc : List (String × String) := [("java/lang/IllegalStateException", "java/lang/IllegalArgumentException"), ("java/lang/IllegalStateException", "java/lang/IndexOutOfBoundsException"), ("java/lang/IllegalArgumentException", "java/lang/IndexOutOfBoundsException"), ("java/lang/IllegalArgumentException", "java/lang/IllegalStateException"), ("java/lang/IndexOutOfBoundsException", "java/lang/IllegalArgumentException"), ("java/lang/IndexOutOfBoundsException", "java/lang/IllegalStateException")]
def NcU (U : State) : Prop := ∀ q ∈ sx_nc, va_Nc q.1 q.2 U
theorem NcU.moved {u U : State} (hvm : u.vm.Alike U.vm) (h : NcU u) : NcU U := fun q hq => (h q hq).moved hvm
/-- the world that a method of the law which catches begins with -/
def PreN (g : GE) (L : List Nat) (f : Nat → va_E) (sz : Nat) (U : State) : Prop := Pre g L f sz U ∧ NcU U
/-- the contract of such a method: nothing is thrown out of it -/
def Ni (l : Launch) (y : MethodName) (ws : List Cond) (rm : Room) (g : GE) (L : List Nat) (f : Nat → va_E) (av : List Value) (post : Int32 → PE → Prop) (mc ms : Nat) : Prop :=
  ∀ sz : Nat, vx_Met l y ws rm (va_Pc av (PreN g L f sz)) (va_Qi (S := PE) post (Bw g (va_A (va_pl L f) sz)) (va_A (va_pl L f) sz)) (Bx g (va_A (va_pl L f) sz) (fun _ _ => False)) mc ms (va_A (va_pl L f) sz)
theorem pn_blind {av : List Value} {sz : Nat} : FrameBlind (va_Pc av (PreN g L f sz)) := by
  intro a U q mk h
  have h1 := pm_blind (g := g) (L := L) (f := f) (av := av) (sz := sz) a U q mk ⟨h.1, h.2.1⟩
  exact ⟨h1.1, h1.2, NcU.moved (u := U) (U := U.calling q mk a) (Vm.Alike.refl U.vm) h.2.2⟩
theorem pn_preS {As : List Value} (hw : PW g A s H locs L f) (hs : Sx g A s s.heap) (hn : NcU s) : PreS s H (va_Pc As (PreN g L f H.size)) As :=
  ⟨pn_blind, fun _ hU hW => ⟨rfl, pm_pre hw hs hU hW, hn.moved hW.alike⟩⟩
theorem pn_begin {sz : Nat} (h : PreN g L f sz s) : (sz = s.heap.size ∧ PW g (va_A (va_pl L f) s.heap.size) s s.heap [] L f ∧ Sx g (va_A (va_pl L f) s.heap.size) s s.heap) ∧ NcU s := ⟨pm_begin h.1, h.2⟩
end LAW0
