/-! lists: what the machine does with rows of references -/
section LISTA
variable {p : Program} {l : Launch} {e : Env} {R : Room} {s : State} {m : MethodId} {args : Array Value} {below : List Frame} {meth : Method} {c : Code} {H : Heap} {locs : List Loc} {cells slots : Nat} {Q : State → Prop}
variable {cc : ByteArray} {pc : Nat} {ls : Array Slot} {rest : List Value} {g : GE} {A : Nat → Prop} {L : List Nat} {f : Nat → va_E} {a : Nat}
abbrev eO (g : GE) (n : Nat) (r : Nat → Option Nat) : va_E := .inl (g.2.1 2, n, .inr (.inr (.inr (.inr r))))
/-- an object that lists may hold: a change or a policy -/
def okE (L : List Nat) (f : Nat → va_E) (y : Nat) : Prop := y ∈ L ∧ ∃ (i : Nat) (fs : List Value), f y = .inr (i, fs) ∧ (i = 3 ∨ i = 4)
theorem okE.up {y b : Nat} {e0 e1 : va_E} (h : okE L f y) (hb : f b = e0) (hn : ∀ (i : Nat) (fs : List Value), i = 3 ∨ i = 4 → e0 ≠ .inr (i, fs)) : okE L (va_up f b e1) y := by
  obtain ⟨h1, i, fs, h2, h3⟩ := h
  exact ⟨h1, i, fs, pu_n (fun q => hn i fs h3 (by rw [← hb, ← q, h2])) h2, h3⟩
theorem okE.more {y q : Nat} {e1 : va_E} (h : okE L f y) (hq : q ∉ L) : okE (L ++ [q]) (va_up f q e1) y := by
  obtain ⟨h1, i, fs, h2, h3⟩ := h
  exact ⟨List.mem_append_left _ h1, i, fs, pu_n (fun e => hq (e ▸ h1)) h2, h3⟩
theorem okE.any (h : okE L f a) (hw : PW g A s H locs L f) (hs : SxU g s) : va_Any "java/lang/Object" s H a := by
  obtain ⟨h1, i, fs, h2, h3⟩ := h
  obtain ⟨k, hk⟩ := pm_k f h1
  rw [h2] at hk
  rcases h3 with rfl | rfl
  · exact va_rAny hw.1 hw.2.1 hk (r := (RX0, TX0, 8)) rfl (vb_asgC (hs.2.2.1 ("Backdater$Change", "java/lang/Object") (by decide +kernel)))
  · exact va_rAny hw.1 hw.2.1 hk (r := (RX2, TX2, 3)) rfl (vb_asgC (hs.2.2.1 ("Backdater$Policy", "java/lang/Object") (by decide +kernel)))
theorem pm_aast (hx : p.tables.exec = Jvm.exec) (hb : c.code = cc) (hw : PW g A s H locs L f) (hs : SxU g s) {n : Nat} {r : Nat → Option Nat} (hq : a ∈ L) (hf : f a = eO g n r) {v : Nat} (hv : okE L f v) {i : Int32} {j : Nat} (hj : i.toNatClampNeg = j) (hin : vp_in i n) (hdg : decode cc pc = .ok (.aastore, 1))
    (kk : ∀ (H1 : Heap) (locs1 : List Loc), PW g A s H1 locs1 L (va_up f a (eO g n (va_up r j (some v)))) → W p l e R s m args below meth c H1 locs1 cells slots Q (F0 m (pc + 1) ls rest)) : W p l e R s m args below meth c H locs cells slots Q (F0 m pc ls (.ref v :: .int i :: .ref a :: rest)) := by
  subst hj
  obtain ⟨k0, hk0⟩ := pm_k f hq
  have hset := fun e => pm_set (e := e) hw.2.2.1 hq hk0
  rw [hf] at hk0
  refine va_astqM hx hb hw.1 hw.2.1 hw.2.2.1 hw.2.2.2.1 k0 2 hk0 rfl (hv.any hw hs) hin hdg (fun H1 locs1 hP hD hS => kk H1 locs1 ⟨hw.1, ?_, ?_, hS, hw.2.2.2.2⟩)
  · rw [← hset]; exact hP
  · rw [← hset]; exact hD
/-- new Object[n] -/
theorem pm_newq (hx : p.tables.exec = Jvm.exec) (hb : c.code = cc) {own : String} {index : Nat} (hown : s.vm.findClass own = some m.cls) (hclink : (Cond.classLink own index "java/lang/Object").before args s = true) (hs : SxU g s) (hw : PW g A s H locs L f) {n : Int32} {N' : Nat} (hn : ¬ n < 0) (hN : n.toNatClampNeg = N') (hbytes : N' * 4 ≤ 536870912) (hcells : cells + 1 ≤ R.cells) (hslots : slots + N' ≤ R.slots) (hdg : decode cc pc = .ok (.anewarray index, 3))
    (kk : ∀ (q : Nat) (H1 : Heap), q ∉ L → PW g A s H1 locs (L ++ [q]) (va_up f q (eO g N' (fun _ => none))) → W p l e R s m args below meth c H1 locs (cells + 1) (slots + N') Q (F0 m (pc + 3) ls (.ref q :: rest))) : W p l e R s m args below meth c H locs cells slots Q (F0 m pc ls (.int n :: rest)) := by
  refine va_newq hx hb hown hclink hs.2.2.2.2.2.2.1 hw.1 hw.2.1 hw.2.2.1 hw.2.2.2.1 hw.2.2.2.2 hn hN hbytes hcells hslots hdg (fun q cA H1 hK hP hD hS => ?_)
  obtain rfl := va_K_lastO hK (i := 2) rfl
  have hnn := pm_notin hD
  rw [va_pl_push hnn] at hP hD
  exact kk q H1 hnn ⟨hw.1, hP, hD, hS, hw.2.2.2.2⟩
theorem pm_copy (hx : p.tables.exec = Jvm.exec) (hb : c.code = cc) (hml : c.maxLocals = ls.size) {own : String} {index : Nat} (hown : s.vm.findClass own = some m.cls) (hlink : (Cond.methodLink own index arraycopyName).before args s = true) (hnat : (Cond.native arraycopyName).before args s = true) (hstat : (Cond.static arraycopyName).before args s = true) (hini : (Cond.initialized "java/lang/System").before args s = true)
    (hw : PW g A s H locs L f) (hs : SxU g s) {a0 n0 n1 : Nat} {r0 r1 : Nat → Option Nat} (hq0 : a0 ∈ L) (hf0 : f a0 = eO g n0 r0) (hq1 : a ∈ L) (hf1 : f a = eO g n1 r1) {sp dp n : Int32} {spn dpn nn : Nat} (hsp : sp = nI spn) (hdp : dp = nI dpn) (hn : n = nI nn) (hsz : spn + nn ≤ n0 ∧ dpn + nn ≤ n1 ∧ n0 < 2 ^ 31 ∧ n1 < 2 ^ 31) (hel : ∀ i : Nat, i < nn → ∀ y : Nat, r0 (spn + i) = some y → okE L f y)
    (hframes : 1 ≤ R.frames) (hlocals : (rest.map fun v => v.category).sum + (nativeFrameWords "java/lang/System" "arraycopy" 5 + 11) ≤ R.locals) (hdg : decode cc pc = .ok (.invokestatic index, 3))
    (kk : ∀ (H1 : Heap) (locs1 : List Loc), PW g A s H1 locs1 L (va_up f a (eO g n1 (va_cpy r0 r1 spn dpn nn))) → W p l e R s m args below meth c H1 locs1 cells slots Q (F0 m (pc + 3) ls rest)) : W p l e R s m args below meth c H locs cells slots Q (F0 m pc ls (.int n :: .int dp :: .ref a :: .int sp :: .ref a0 :: rest)) := by
  subst hsp hdp hn
  have e1 : (nI spn).toNatClampNeg = spn := nI_clamp (by omega)
  have e2 : (nI dpn).toNatClampNeg = dpn := nI_clamp (by omega)
  have e3 : (nI nn).toNatClampNeg = nn := nI_clamp (by omega)
  obtain ⟨k0, hk0⟩ := pm_k f hq0
  obtain ⟨k1, hk1⟩ := pm_k f hq1
  have hset := fun e => pm_set (e := e) hw.2.2.1 hq1 hk1
  rw [hf0] at hk0
  rw [hf1] at hk1
  refine va_copyM hx hb hml hown hlink hnat hstat hini hw.1 hw.2.1 hw.2.2.1 hw.2.2.2.1 k0 k1 2 2 hk0 hk1 rfl rfl (nI_pos (by omega)) (nI_pos (by omega)) (nI_pos (by omega)) (by rw [e1, e3]; exact hsz.1) (by rw [e2, e3]; exact hsz.2.1) (fun i hi y hy => ?_) hframes hlocals hdg (fun H1 locs1 hP hD hS => kk H1 locs1 ⟨hw.1, ?_, ?_, hS, hw.2.2.2.2⟩)
  · rw [e3] at hi
    rw [e1] at hy
    exact (hel i hi y hy).any hw hs
  · rw [← hset]
    rw [e1, e2, e3] at hP
    exact hP
  · rw [← hset]
    rw [e1, e2, e3] at hD
    exact hD
theorem pm_arr (hw : PW g A s H locs L f) {n : Nat} {r : Nat → Option Nat} (hq : a ∈ L) (hf : f a = eO g n r) : ∃ cell : Cell, H[a]? = some cell ∧ cell.vm.isStatics = false ∧ s.vm.findClass "[Ljava/lang/Object;" = some cell.cls := by
  obtain ⟨k0, hk0⟩ := pm_k f hq
  rw [hf] at hk0
  have h := hw.2.1 k0 _ hk0
  exact ⟨_, h, rfl, va_nmO (hw.1.2 2 _ rfl).2 rfl⟩
end LISTA
