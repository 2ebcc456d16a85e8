/-! THE CLAIM OUT OF ONE WALK OF THE LAW'S BODY. Your part is whole_start (and what it stands on); all else here is the same for every law, but numbers. -/
def R_law : String := "BackdaterLaw"
def lw_P (b : Addr) (xs : List Int32) (args : Array Value) (s : State) : Prop := args = #[.ref b] ∧ s.IntsAt b xs ∧ xs.length ≤ 2560 ∧ (Jvm.Cond.and given_1 narrow_1).before args s = true
def lw_Q (_ : Array Value) (s : State) (o : Outcome) (t : State) : Prop := o = .returned (some (.int 1)) ∧ Framed s o t [] 601024 7293034
def lw_Z (below : List Frame) (a : Array Value) (s : State) : State → Prop := fun t => ∃ o, t.status = .running ∧ Ended t below o ∧ lw_Q a s o t
/-- the law's own end, with 1 on the stack, nothing written that was there before, its room as the claim has it -/
theorem lw_ret {p : Program} {l : Launch} {e : Env} {s : State} {m : MethodId} {below : List Frame} {meth : Method} {c : Code} {b : Nat} (hx : p.tables.exec = Jvm.exec) (hb : c.code = code) (hr : meth.sig.returnType = ret) (hlocks : meth.locks = false) {pc : Nat} {H : Heap} {ls : Array Slot} (hdg : decode code pc = .ok (.ireturn, 1)) : W p l e room_1 s m #[Value.ref b] below meth c H [] 601024 7293034 (lw_Z below #[Value.ref b] s) (F0 m pc ls [.int 1]) := by
  intro T hT X
  obtain ⟨fs, hret, hrun, hended, hW, hframe⟩ := X.leave (v := some (.int 1)) (hlocks := hlocks) (fun h => by rw [hr] at h; cases h)
  have hmeth' : T.vm.method? m = some meth := X.method'
  refine ⟨T.setFrames fs, ?_, .returned (some (.int 1)), hrun, hended, rfl, ⟨_, rfl⟩, hW, hframe⟩
  jvm_step X.here [X.here.top, hx, hb, hdg, hmeth', hr, ret, narrow_b1]
  (try refine ⟨rfl, ?_⟩); (try refine ⟨rfl, ?_⟩)
  first | (intro acts; rw [hret _ acts rfl rfl rfl]) | rw [hret _ _ rfl rfl rfl]
  exact Steps.refl _
/-- what holds at the law's entry: the machine, the code, the tables' words (any of lw_tbl by 'hts w (by decide +kernel)'), the script of L ints xs at the cell b, what the Statement gives of the start (any of its parts by flat_of_before) -/
def lw_At (p : Program) (s : State) (m : MethodId) (meth : Method) (c : Code) (b L : Nat) (xs : Nat → Int32) : Prop :=
  p.tables.exec = Jvm.exec ∧ c.code = code ∧ meth.sig.returnType = ret ∧ c.maxLocals = 7 ∧ s.vm.findClass R_law = some m.cls ∧ (∀ w ∈ lw_tbl, w.before #[Value.ref b] s = true) ∧ va_X b L xs s s.heap ∧ b < s.heap.size ∧ meth.locks = false ∧ (Jvm.Cond.and given_1 narrow_1).before #[Value.ref b] s = true

/-! what holds at the head of the law's loop, and the rows that its cases share -/
section LAWH
variable {p : Program} {l : Launch} {e : Env} {R : Room} {s : State} {m : MethodId} {args : Array Value} {below : List Frame} {meth : Method} {c : Code} {H : Heap} {locs : List Loc} {cells slots : Nat} {Q : State → Prop}
variable {cc : ByteArray} {pc : Nat} {ls : Array Slot} {rest : List Value} {g : GE} {A : Nat → Prop} {L : List Nat} {f : Nat → va_E} {a : Nat}
theorem FW.cong {dom : Nat → Prop} {fx : Nat → va_E} {a : Nat → Nat} {L : List Nat} {f f' : Nat → va_E} (h : FW dom fx a L f) (he : ∀ b, b ∈ L → f' b = f b) : FW dom fx a L f' := ⟨fun i hi => ⟨h.q hi, (he _ (h.q hi)).trans (h.f hi)⟩, h.2⟩
theorem mix_same (L2 : List Nat) (f : Nat → va_E) : mix L2 f f = f := by
  funext b
  exact ite_self _
theorem Pt_l {L1 L2 : List Nat} (h : (L1 ++ L2).Nodup) : Pt (L1 ++ L2) L1 L2 := ⟨fun b hb => List.mem_append_left _ hb, fun b hb => List.mem_append_right _ hb, (List.nodup_append.mp h).1, (List.nodup_append.mp h).2.1, fun b hb h9 => (List.nodup_append.mp h).2.2 b hb b h9 rfl⟩
theorem Pt_r {L1 L2 : List Nat} (h : (L1 ++ L2).Nodup) : Pt (L1 ++ L2) L2 L1 := ⟨fun b hb => List.mem_append_right _ hb, fun b hb => List.mem_append_left _ hb, (List.nodup_append.mp h).2.1, (List.nodup_append.mp h).1, fun b hb h9 => (List.nodup_append.mp h).2.2 b h9 b hb rfl⟩
/-- newarray of longs -/
theorem pm_newl (hx : p.tables.exec = Jvm.exec) (hb : c.code = cc) (harr : (Cond.arrayClass .long).before args s = true) (hw : PW g A s H locs L f) {n : Int32} {N' : Nat} (hn : ¬ n < 0) (hN : n.toNatClampNeg = N') (hbytes : N' * componentBytes .long ≤ 536870912) (hcells : cells + 1 ≤ R.cells) (hslots : slots + N' ≤ R.slots) (hdg : decode cc pc = .ok (.newarray .long, 2))
    (kk : ∀ (q : Nat) (H1 : Heap), q ∉ L → PW g A s H1 locs (L ++ [q]) (va_up f q (.inl (g.2.1 4, N', .inr (.inl (fun _ => 0))))) → W p l e R s m args below meth c H1 locs (cells + 1) (slots + N') Q (F0 m (pc + 2) ls (.ref q :: rest))) : W p l e R s m args below meth c H locs cells slots Q (F0 m pc ls (.int n :: rest)) := by
  refine va_newa (atype := .long) (ty := .long) (a0 := (N', .inr (.inl (fun _ => 0)))) hx hb harr rfl hw.1 hw.2.1 hw.2.2.1 hw.2.2.2.1 hw.2.2.2.2 (fun _ => rfl) hn hN hbytes hcells hslots hdg (fun q cA H1 hK hP hD hS => ?_)
  obtain rfl := va_K_last hK (i := 4) rfl (fun n h => by cases h)
  have hnn := pm_notin hD
  rw [va_pl_push hnn] at hP hD
  exact kk q H1 hnn ⟨hw.1, hP, hD, hS, hw.2.2.2.2⟩
/-- a number of the script -/
theorem lw_sld (hx : p.tables.exec = Jvm.exec) (hb : c.code = cc) {b N : Nat} {xs : Nat → Int32} (hX : va_X b N xs s s.heap) (hbl : b < s.heap.size) (hbA : ¬ A b) (hw : PW g A s H locs L f) (hN : N ≤ 2560) {i : Int32} {q : Nat} (hi : i = nI q) (hq : q < N) (hdg : decode cc pc = .ok (.iaload, 1))
    (kk : W p l e R s m args below meth c H locs cells slots Q (F0 m (pc + 1) ls (.int (xs q) :: rest))) : W p l e R s m args below meth c H locs cells slots Q (F0 m pc ls (.int i :: .ref b :: rest)) := by
  subst hi
  refine va_sld hx hb hX hbl hbA hw.2.2.2.1 (vp_in_nI hq (by omega)) hdg ?_
  rw [nI_clamp (by omega)]
  exact kk
end LAWH
/-- the cells that are the law's own -/
def lwA (s : State) : Nat → Prop := fun q => s.heap.size ≤ q
/-- at the head of the law's loop: n calls are done -/
def LawI (g : GE) (s : State) (b n : Nat) (H : Heap) (locs : List Loc) (ls : Array Slot) : Prop :=
  ∃ (a am : Nat → Nat) (k : KS) (mm : MS) (t0 o : Nat) (Lc Lm : List Nat) (f : Nat → va_E) (ro : Nat → Int64), PW g (lwA s) s H locs (Lm ++ (Lc ++ [o])) f ∧ (CW g a k Lc f ∧ Iv a k ∧ IvL k) ∧ MW g am mm Lm f ∧ Rel k mm t0 n ∧ f o = .inl (g.2.1 4, 1, .inr (.inl ro)) ∧ lv_has ls 7 [(0, .ref b), (1, .ref (a 0)), (2, .ref (am 0)), (3, .ref o), (4, .int (nI (5 * n)))]

