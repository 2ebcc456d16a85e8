/-! between the leaves and the face -/
section MID
variable {p : Program} {l : Launch} {e : Env} {R : Room} {s : State} {m : MethodId} {args : Array Value} {below : List Frame} {meth : Method} {c : Code} {H : Heap} {locs : List Loc} {cells slots : Nat} {Q : State → Prop}
variable {A0 : Nat → Prop} {H0 : Heap} {A1 : Nat → Prop} {free : Addr → Prop} {a : Array Value} {st0 : List Value}
variable {cc : ByteArray} {pc : Nat} {ls : Array Slot} {rest : List Value} {mc ms : Nat}
theorem vx_callq {S SX : Type} {post : Option Nat → S → Prop} {px : SX → Prop} {B : S → State → Prop} {BX : String → SX → State → Prop} {AX : Nat → Prop} (hr : vx_Run p l e R s m args below meth c H locs cells slots mc ms (F0 m pc ls st0) rest (va_Qq post B A1 a) (vx_X px BX AX) free) (hS : va_S A0 H0 H locs) (hA : ∀ q, q < H.size → A1 q → A0 q) (hf : ∀ q, free q → A0 q) (hAX : ∀ q, q < H.size → AX q → A0 q)
    (kx : ∀ (E : String) (ce : Cell) (q9 : Addr) (u : SX) (t : State) (H1 : Heap) (locs1 : List Loc), t.heap = H1 → s.vm.Alike t.vm → px u → BX E u t → H.size ≤ H1.size → (∀ q : Nat, q < H.size → ¬ AX q → H1[q]? = H[q]?) → va_S A0 H0 H1 locs1 → H1[q9]? = some ce → ce.vm = .none → s.vm.findClass E = some ce.cls → vx_W p l e R s m args below meth c H1 locs1 (cells + mc) (slots + ms) Q (F0 m pc ls rest) q9)
    (kk : ∀ (r : Option Nat) (u : S) (t : State) (H1 : Heap) (locs1 : List Loc), t.heap = H1 → s.vm.Alike t.vm → post r u → B u t → H.size ≤ H1.size → (∀ q : Nat, q < H.size → ¬ A1 q → H1[q]? = H[q]?) → va_S A0 H0 H1 locs1 → W p l e R s m args below meth c H1 locs1 (cells + mc) (slots + ms) Q (F0 m (pc + 3) ls (va_rf r :: rest))) : W p l e R s m args below meth c H locs cells slots Q (F0 m pc ls st0) := by
  intro T hT X
  rcases hr T hT X with ⟨v, st₀, t, T', L, h0, X', hL, e1, e2, ⟨⟨r, u, hv, hp, hb⟩, hF⟩, st⟩ | ⟨q, st₀, t, T', L, E, ce, h0, X', hL, e1, e2, ⟨u, hp, hb, hF⟩, hce, hcv, hcl, st⟩
  · cases hv
    obtain ⟨k1, k2, k3⟩ := vx_keep h0 e1 hS hA hf hL hF
    obtain ⟨t2, a1, b1⟩ := kk r u t T'.heap (locs ++ L) e1.symm (by rw [← e2]; exact X'.warmed.alike) hp hb k1 k2 k3 T' rfl X'
    exact ⟨t2, st t2 a1, b1⟩
  · obtain ⟨k1, k2, k3⟩ := vx_keep h0 e1 hS hAX hf hL hF
    obtain ⟨t2, a1, b1⟩ := kx E ce q u t T'.heap (locs ++ L) e1.symm (by rw [← e2]; exact X'.warmed.alike) hp hb k1 k2 k3 (by rw [e1]; exact hce) hcv hcl T' rfl X'
    exact ⟨t2, st.trans a1, b1⟩
end MID
section MID2
variable {p : Program} {l : Launch} {e : Env} {R : Room} {s : State} {m : MethodId} {args : Array Value} {below : List Frame} {meth : Method} {c : Code} {H : Heap} {locs : List Loc} {cells slots : Nat} {Q : State → Prop}
variable {cc : ByteArray} {pc : Nat} {ls : Array Slot} {rest : List Value} {g : GE} {A : Nat → Prop} {L : List Nat} {f : Nat → va_E} {a : Nat}
variable {mc ms : Nat} {st0 : List Value} {aa : Array Value}
theorem px_qc {post : Option Nat → PE → Prop} {ex : String → PE → Prop} (hw : PW g A s H locs L f) (hr : vx_Run p l e R s m args below meth c H locs cells slots mc ms (F0 m pc ls st0) rest (va_Qq (S := PE) post (Bw g (va_A (va_pl L f) H.size)) (va_A (va_pl L f) H.size) aa) (Bx g (va_A (va_pl L f) H.size) ex) (va_A (va_pl L f) H.size))
    (kx : ∀ (E : String) (ce : Cell) (q9 : Addr) (L1 : List Nat) (f1 : Nat → va_E) (H1 : Heap) (locs1 : List Loc), ex E (L1, f1) → PW g A s H1 locs1 L1 f1 → H1[q9]? = some ce → ce.vm = .none → s.vm.findClass E = some ce.cls → vx_W p l e R s m args below meth c H1 locs1 (cells + mc) (slots + ms) Q (F0 m pc ls rest) q9)
    (kk : ∀ (r : Option Nat) (L1 : List Nat) (f1 : Nat → va_E) (H1 : Heap) (locs1 : List Loc), post r (L1, f1) → PW g A s H1 locs1 L1 f1 → W p l e R s m args below meth c H1 locs1 (cells + mc) (slots + ms) Q (F0 m (pc + 3) ls (va_rf r :: rest))) : W p l e R s m args below meth c H locs cells slots Q (F0 m pc ls st0) :=
  vx_callq hr hw.2.2.2.1 (fun q _ h => pm_free hw q h) (pm_free hw) (fun q _ h => pm_free hw q h) (fun E ce q9 u t H1 locs1 ht hvm _ hB _ _ hS h1 h2 h3 => kx E ce q9 u.1 u.2 H1 locs1 hB.1 (pm_after hw ht hvm hB.2 hS) h1 h2 h3) (fun r u t H1 locs1 ht hvm hp hB _ _ hS => kk r u.1 u.2 H1 locs1 hp (pm_after hw ht hvm hB hS))
theorem px_q {Qc : Array Value → State → Outcome → State → Prop} {mc0 ms0 : Nat} {post : Option Nat → PE → Prop} {ex ex0 : String → PE → Prop} (hw : PW g A s H locs L f) (hr : vx_Run p l e R s m args below meth c H locs cells slots mc ms (F0 m pc ls st0) rest (va_Qq (S := PE) post (Bw g (va_A (va_pl L f) H.size)) (va_A (va_pl L f) H.size) aa) (Bx g (va_A (va_pl L f) H.size) ex) (va_A (va_pl L f) H.size))
    (htab : ∀ x ∈ c.exceptionTable.toList, False) (hlocks : meth.locks = false) (hm : cells + mc ≤ mc0 ∧ slots + ms ≤ ms0) (hx : ∀ (E : String) (u : PE), ex E u → ex0 E u)
    (kk : ∀ (r : Option Nat) (L1 : List Nat) (f1 : Nat → va_E) (H1 : Heap) (locs1 : List Loc), post r (L1, f1) → PW g A s H1 locs1 L1 f1 → W p l e R s m args below meth c H1 locs1 (cells + mc) (slots + ms) (vx_MQ below Qc (Bx g A ex0) args s mc0 ms0 A) (F0 m (pc + 3) ls (va_rf r :: rest))) : W p l e R s m args below meth c H locs cells slots (vx_MQ below Qc (Bx g A ex0) args s mc0 ms0 A) (F0 m pc ls st0) :=
  px_qc hw hr (fun E ce q9 L1 f1 H1 locs1 he hw1 h1 h2 h3 => px_out hw1 htab hlocks hm (hx E (L1, f1) he) h1 h2 h3) kk
theorem xr_q {post : Option Nat → PE → Prop} {XC : String → State → State → Prop} {v : Nat} {mc ms : Nat} {ty : FieldType} (hx : p.tables.exec = Jvm.exec) (hb : c.code = cc) (hr : meth.sig.returnType = some ty) (hlocks : meth.locks = false) (hrt : (∃ n, ty = .object n) ∨ ∃ t, ty = .array t) (hw : PW g A s H locs L f) (hm : cells ≤ mc ∧ slots ≤ ms) (hp : post (some v) (L, f)) (hdg : decode cc pc = .ok (.areturn, 1)) :
    W p l e R s m args below meth c H locs cells slots (vx_MQ below (va_Qq (S := PE) post (Bw g A) A) XC args s mc ms A) (F0 m pc ls [.ref v]) := vx_ret (pr_r hx hb hr hlocks hrt hw hm hp hdg)
theorem pm_emp (hw : PW g A s H locs L f) (hs : Sx g A s s.heap) : g.2.2 4 ∉ L := fun h => by
  obtain ⟨cell, -, -, -, -, -, -, hn⟩ := hs.1.2.1.2
  obtain ⟨k, hk⟩ := pm_k f h
  exact hn (hw.2.2.1.2 k _ hk)
end MID2
section MID3
abbrev kP (k : KS) : Nat := k.2.1 0 0
abbrev kC (k : KS) : Nat := k.2.1 0 1
/-- what holds of the class's state between calls, as far as its cells go -/
def Iv (a : Nat → Nat) (k : KS) : Prop :=
  (kP k ≤ 4 ∧ kC k ≤ 60) ∧ (k.2.1 3 0 = kP k ∧ k.2.1 3 1 = kC k) ∧ (∀ t, k.2.1 3 t ≤ k.2.1 4 t ∧ k.2.1 4 t ≤ 100 ∧ k.2.1 3 t ≤ 60) ∧
  (∀ i, i < kP k → k.2.2.1 0 i = some (a (20 + 3 * i))) ∧ (∀ j, j < kC k → k.2.2.1 1 j = some (a (32 + j))) ∧
  (∀ i, i < kP k → k.2.1 3 (2 + i) = (k.2.2.2 i).length ∧ ∀ (q : Nat) (h : q < (k.2.2.2 i).length), k.2.2.1 (2 + i) q = some (a (32 + (k.2.2.2 i)[q]))) ∧
  (∀ i, i < kP k → ∀ j, j ∈ k.2.2.2 i → j < kC k ∧ k.2.1 1 j = i) ∧ (∀ j, j < kC k → k.2.1 1 j < kP k ∧ k.2.1 2 j < 4)
theorem FW.more {dom : Nat → Prop} {fx : Nat → va_E} {a : Nat → Nat} {L : List Nat} {f : Nat → va_E} (h : FW dom fx a L f) {q : Nat} {e : va_E} (hq : q ∉ L) : FW dom fx a (L ++ [q]) (va_up f q e) :=
  ⟨fun i hi => ⟨List.mem_append_left _ (h.q hi), pu_n (fun e9 => hq (e9 ▸ h.q hi)) (h.f hi)⟩, h.2⟩
/-- the address of list t's row -/
abbrev lea (g : GE) (a : Nat → Nat) (k : KS) (t ia : Nat) : Nat := if k.2.1 4 t = 0 then g.2.2 4 else a ia
theorem CW.lst {g : GE} {a : Nat → Nat} {k : KS} {L : List Nat} {f : Nat → va_E} (hk : CW g a k L f) (t il ia : Nat) (hil : domC k il) (hl : fxC g a k il = eLst g a k t ia) (hia : 0 < k.2.1 4 t → domC k ia) (hr : fxC g a k ia = eArr g k t) (hz : k.2.1 3 t ≤ k.2.1 4 t ∧ k.2.1 4 t ≤ 100 ∧ k.2.1 3 t ≤ 60) (hok : ∀ j, j < k.2.1 3 t → ∀ y, k.2.2.1 t j = some y → okE L f y) : LsT g L f (a il) (k.1 17 t) (lea g a k t ia) (k.2.1 3 t) (k.2.1 4 t) (k.2.2.1 t) := by
  refine ⟨hk.q hil, (hk.f hil).trans hl, ?_, hz.1, hz.2.1, hz.2.2, hok⟩
  by_cases h0 : k.2.1 4 t = 0
  · exact Or.inl ⟨if_pos h0, by omega⟩
  · have hd := hia (by omega)
    rw [show lea g a k t ia = a ia from if_neg h0]
    exact Or.inr ⟨hk.q hd, (hk.f hd).trans hr, by omega⟩
theorem CW.okP {g : GE} {a : Nat → Nat} {k : KS} {L : List Nat} {f : Nat → va_E} (hk : CW g a k L f) {i : Nat} (hi : i < kP k) (h4 : i < 4) : okE L f (a (20 + 3 * i)) := ⟨hk.q (dP hi h4), 4, _, (hk.f (dP hi h4)).trans (fP g a k h4), Or.inr rfl⟩
theorem CW.okC {g : GE} {a : Nat → Nat} {k : KS} {L : List Nat} {f : Nat → va_E} (hk : CW g a k L f) {j : Nat} (hj : j < kC k) : okE L f (a (32 + j)) := ⟨hk.q (dCh hj), 3, _, (hk.f (dCh hj)).trans (fCh g a k j), Or.inl rfl⟩
theorem CW.ls0 {g : GE} {a : Nat → Nat} {k : KS} {L : List Nat} {f : Nat → va_E} (hk : CW g a k L f) (hi : Iv a k) : LsT g L f (a 1) (k.1 17 0) (lea g a k 0 17) (k.2.1 3 0) (k.2.1 4 0) (k.2.2.1 0) :=
  hk.lst 0 1 17 (dC (by decide)) rfl (fun h => Or.inr (Or.inl ⟨rfl, h⟩)) rfl (hi.2.2.1 0) (fun j hj y hy => by
    have hj' : j < kP k := by have := hi.2.1.1; omega
    rw [hi.2.2.2.1 j hj'] at hy
    cases hy
    exact hk.okP hj' (by have := hi.1.1; omega))
theorem CW.ls1 {g : GE} {a : Nat → Nat} {k : KS} {L : List Nat} {f : Nat → va_E} (hk : CW g a k L f) (hi : Iv a k) : LsT g L f (a 2) (k.1 17 1) (lea g a k 1 18) (k.2.1 3 1) (k.2.1 4 1) (k.2.2.1 1) :=
  hk.lst 1 2 18 (dC (by decide)) rfl (fun h => Or.inr (Or.inr (Or.inl ⟨rfl, h⟩))) rfl (hi.2.2.1 1) (fun j hj y hy => by
    have hj' : j < kC k := by have := hi.2.1.2; omega
    rw [hi.2.2.2.2.1 j hj'] at hy
    cases hy
    exact hk.okC hj')
/-- the list of policy i: what putInOrder and the walks over it need -/
def IvO (a : Nat → Nat) (k : KS) (i : Nat) : Prop := (k.2.1 3 (2 + i) ≤ k.2.1 4 (2 + i) ∧ k.2.1 4 (2 + i) ≤ 100 ∧ k.2.1 3 (2 + i) ≤ 60) ∧ (k.2.1 3 (2 + i) = (k.2.2.2 i).length ∧ ∀ (q : Nat) (h : q < (k.2.2.2 i).length), k.2.2.1 (2 + i) q = some (a (32 + (k.2.2.2 i)[q]))) ∧ ∀ j, j ∈ k.2.2.2 i → j < kC k
theorem Iv.o {a : Nat → Nat} {k : KS} (h : Iv a k) {i : Nat} (hi : i < kP k) : IvO a k i := ⟨h.2.2.1 _, h.2.2.2.2.2.1 i hi, fun j hj => (h.2.2.2.2.2.2.1 i hi j hj).1⟩
theorem CW.lsP {g : GE} {a : Nat → Nat} {k : KS} {L : List Nat} {f : Nat → va_E} (hk : CW g a k L f) {i : Nat} (ho : IvO a k i) (hp : i < kP k) (h4 : i < 4) : LsT g L f (a (21 + 3 * i)) (k.1 17 (2 + i)) (lea g a k (2 + i) (22 + 3 * i)) (k.2.1 3 (2 + i)) (k.2.1 4 (2 + i)) (k.2.2.1 (2 + i)) :=
  hk.lst (2 + i) (21 + 3 * i) (22 + 3 * i) (dPl hp h4) (fPl g a k h4) (fun h => dPa hp h4 h) (fPa g a k h4) ho.1 (fun j hj y hy => by
    have hj' : j < (k.2.2.2 i).length := by have := ho.2.1.1; omega
    rw [ho.2.1.2 j hj'] at hy
    cases hy
    exact hk.okC (ho.2.2 _ (List.getElem_mem hj')))
theorem LsT.q {g : GE} {L : List Nat} {f : Nat → va_E} {h0 : Nat} {mc : Int32} {ea n cap : Nat} {rf : Nat → Option Nat} (h : LsT g L f h0 mc ea n cap rf) : h0 ∈ L := h.1
theorem LsT.f {g : GE} {L : List Nat} {f : Nat → va_E} {h0 : Nat} {mc : Int32} {ea n cap : Nat} {rf : Nat → Option Nat} (h : LsT g L f h0 mc ea n cap rf) : f h0 = .inr (2, [.int mc, .ref ea, .int (nI n)]) := h.2.1
theorem LsT.r {g : GE} {L : List Nat} {f : Nat → va_E} {h0 : Nat} {mc : Int32} {ea n cap : Nat} {rf : Nat → Option Nat} (h : LsT g L f h0 mc ea n cap rf) (hn : 0 < n) : ea ∈ L ∧ f ea = eO g cap rf := by
  rcases h.2.2.1 with ⟨-, h2⟩ | ⟨h1, h2, -⟩
  · omega
  · exact ⟨h1, h2⟩
end MID3
