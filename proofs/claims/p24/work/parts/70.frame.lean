/-! the frame: a call that is told a part of the world leaves the rest -/
section FRAME
variable {p : Program} {l : Launch} {e : Env} {R : Room} {s : State} {m : MethodId} {args : Array Value} {below : List Frame} {meth : Method} {c : Code} {H : Heap} {locs : List Loc} {cells slots : Nat} {Q : State → Prop}
variable {cc : ByteArray} {pc : Nat} {ls : Array Slot} {rest : List Value} {g : GE} {A : Nat → Prop} {L : List Nat} {f : Nat → va_E} {a : Nat}
variable {mc ms : Nat} {st0 : List Value} {aa : Array Value}
theorem pw_P : va_P g.1 vwCl (va_pl L f) H ↔ ∀ b, b ∈ L → va_at g.1 vwCl (b, f b) H := by
  refine ⟨fun h b hb => ?_, fun h k q hk => ?_⟩
  · obtain ⟨k, hk⟩ := pm_k f hb
    exact h k _ hk
  · obtain ⟨b, hb, rfl⟩ := List.mem_map.mp (List.mem_of_getElem? hk)
    exact h b hb
theorem pw_D : va_D A (va_pl L f) ↔ L.Nodup ∧ ∀ b, b ∈ L → A b := by
  refine ⟨fun h => ⟨va_D_nodup h, fun b hb => ?_⟩, fun h => ⟨fun i j q1 q2 hi hj he => ?_, fun k q hk => ?_⟩⟩
  · obtain ⟨k, hk⟩ := pm_k f hb
    exact h.2 k _ hk
  · have hp := List.pairwise_iff_getElem.mp h.1
    have e1 : ∀ (i : Nat) (q : Nat × va_E), (va_pl L f)[i]? = some q → ∃ h : i < L.length, q.1 = L[i] := by
      intro i q hq
      have hl : i < L.length := by
        have := (List.getElem?_eq_some_iff.mp hq).1
        simpa [va_pl] using this
      refine ⟨hl, ?_⟩
      have h9 : (va_pl L f)[i]? = some (L[i], f L[i]) := by simp [va_pl, List.getElem?_eq_getElem hl]
      rw [h9] at hq
      cases hq
      rfl
    obtain ⟨h1, x1⟩ := e1 i q1 hi
    obtain ⟨h2, x2⟩ := e1 j q2 hj
    rw [x1, x2] at he
    rcases Nat.lt_trichotomy i j with z | z | z
    · exact absurd he (hp i j h1 h2 z)
    · exact z
    · exact absurd he.symm (hp j i h2 h1 z)
  · obtain ⟨b, hb, rfl⟩ := List.mem_map.mp (List.mem_of_getElem? hk)
    exact h.2 b hb
theorem pw_A {sz b : Nat} : va_A (va_pl L f) sz b ↔ b ∈ L ∨ sz ≤ b := by
  refine ⟨fun h => ?_, fun h => ?_⟩
  · rcases h with ⟨k, e, hk⟩ | h
    · obtain ⟨b', hb, he⟩ := List.mem_map.mp (List.mem_of_getElem? hk)
      cases he
      exact Or.inl hb
    · exact Or.inr h
  · rcases h with h | h
    · obtain ⟨k, hk⟩ := pm_k f h
      exact Or.inl ⟨k, _, hk⟩
    · exact Or.inr h
/-- a part of the world, or the same in another order -/
theorem PW.sub (hw : PW g A s H locs L f) {L1 : List Nat} (h1 : ∀ b, b ∈ L1 → b ∈ L) (hn : L1.Nodup) : PW g A s H locs L1 f :=
  ⟨hw.1, pw_P.mpr (fun b hb => pw_P.mp hw.2.1 b (h1 b hb)), pw_D.mpr ⟨hn, fun b hb => (pw_D.mp hw.2.2.1).2 b (h1 b hb)⟩, hw.2.2.2.1, hw.2.2.2.2⟩
theorem PW.nodup (hw : PW g A s H locs L f) : L.Nodup := va_D_nodup hw.2.2.1
theorem PW.cong (hw : PW g A s H locs L f) {f' : Nat → va_E} (h : ∀ b, b ∈ L → f' b = f b) : PW g A s H locs L f' :=
  ⟨hw.1, pw_P.mpr (fun b hb => by rw [h b hb]; exact pw_P.mp hw.2.1 b hb), pw_D.mpr (pw_D.mp hw.2.2.1), hw.2.2.2.1, hw.2.2.2.2⟩
theorem pf_after {L1 L2 : List Nat} (hw : PW g A s H locs L f) (h1 : ∀ b, b ∈ L1 → b ∈ L) (h2 : ∀ b, b ∈ L2 → b ∈ L) (hn1 : L1.Nodup) (hn2 : L2.Nodup) (hdis : ∀ b, b ∈ L1 → b ∉ L2) {u : PE} {t : State} {H1 : Heap} {locs1 : List Loc} (ht : t.heap = H1) (hB : Bw g (va_A (va_pl L1 f) H.size) u t) (hkeep : ∀ q : Nat, q < H.size → ¬ va_A (va_pl L1 f) H.size q → H1[q]? = H[q]?) (hS : va_S A s.heap H1 locs1) :
    (∀ b, b ∈ u.1 → b ∉ L2) ∧ PW g A s H1 locs1 (u.1 ++ L2) (fun b => if b ∈ L2 then f b else u.2 b) := by
  have hlt : ∀ b, b ∈ L2 → b < H.size := fun b hb => (pw_P.mp hw.2.1 b (h2 b hb)).lt
  have hnA : ∀ b, b ∈ L2 → ¬ va_A (va_pl L1 f) H.size b := fun b hb hA => by
    rcases pw_A.mp hA with h | h
    · exact hdis b h hb
    · have := hlt b hb
      omega
  have hd : ∀ b, b ∈ u.1 → b ∉ L2 := fun b hb hb2 => hnA b hb2 ((pw_D.mp hB.2.2).2 b hb)
  refine ⟨hd, hw.1, pw_P.mpr (fun b hb => ?_), pw_D.mpr ⟨?_, fun b hb => ?_⟩, hS, hw.2.2.2.2⟩
  · show va_at g.1 vwCl (b, if b ∈ L2 then f b else u.2 b) H1
    by_cases e : b ∈ L2
    · rw [if_pos e]
      exact (pw_P.mp hw.2.1 b (h2 b e)).kept (hkeep b (hlt b e) (hnA b e))
    · rw [if_neg e, ← ht]
      exact pw_P.mp hB.1 b ((List.mem_append.mp hb).resolve_right e)
  · rw [List.nodup_append]
    exact ⟨(pw_D.mp hB.2.2).1, hn2, fun x hx y hy he => hd x hx (he ▸ hy)⟩
  · rcases List.mem_append.mp hb with h | h
    · exact pm_free (hw.sub h1 hn1) b ((pw_D.mp hB.2.2).2 b h)
    · exact (pw_D.mp hw.2.2.1).2 b (h2 b h)
/-- the parts of a world -/
abbrev Pt (L L1 L2 : List Nat) : Prop := (∀ b, b ∈ L1 → b ∈ L) ∧ (∀ b, b ∈ L2 → b ∈ L) ∧ L1.Nodup ∧ L2.Nodup ∧ ∀ b, b ∈ L1 → b ∉ L2
abbrev mix (L2 : List Nat) (f f1 : Nat → va_E) : Nat → va_E := fun b => if b ∈ L2 then f b else f1 b
theorem pf_i {L1 L2 : List Nat} (hP : Pt L L1 L2) {post : Int32 → PE → Prop} (hw : PW g A s H locs L f) (hr : va_Run p l e R s m args below meth c H locs cells slots mc ms (F0 m pc ls st0) rest (va_Qi (S := PE) post (Bw g (va_A (va_pl L1 f) H.size)) (va_A (va_pl L1 f) H.size) aa) (va_A (va_pl L1 f) H.size))
    (kk : ∀ (r : Int32) (La : List Nat) (f1 : Nat → va_E) (H1 : Heap) (locs1 : List Loc), post r (La, f1) → (∀ b, b ∈ La → b ∉ L2) → PW g A s H1 locs1 (La ++ L2) (mix L2 f f1) → W p l e R s m args below meth c H1 locs1 (cells + mc) (slots + ms) Q (F0 m (pc + 3) ls (.int r :: rest))) : W p l e R s m args below meth c H locs cells slots Q (F0 m pc ls st0) :=
  va_calli hr hw.2.2.2.1 (fun q _ h => pm_free (hw.sub hP.1 hP.2.2.1) q h) (pm_free (hw.sub hP.1 hP.2.2.1)) (fun r u t H1 locs1 ht _ hp hB _ hkeep hS => (fun x => kk r u.1 u.2 H1 locs1 hp x.1 x.2) (pf_after hw hP.1 hP.2.1 hP.2.2.1 hP.2.2.2.1 hP.2.2.2.2 ht hB hkeep hS))
theorem pf_v {L1 L2 : List Nat} (hP : Pt L L1 L2) {post : PE → Prop} (hw : PW g A s H locs L f) (hr : va_Run p l e R s m args below meth c H locs cells slots mc ms (F0 m pc ls st0) rest (va_Qv (S := PE) post (Bw g (va_A (va_pl L1 f) H.size)) (va_A (va_pl L1 f) H.size) aa) (va_A (va_pl L1 f) H.size))
    (kk : ∀ (La : List Nat) (f1 : Nat → va_E) (H1 : Heap) (locs1 : List Loc), post (La, f1) → (∀ b, b ∈ La → b ∉ L2) → PW g A s H1 locs1 (La ++ L2) (mix L2 f f1) → W p l e R s m args below meth c H1 locs1 (cells + mc) (slots + ms) Q (F0 m (pc + 3) ls rest)) : W p l e R s m args below meth c H locs cells slots Q (F0 m pc ls st0) :=
  va_callv hr hw.2.2.2.1 (fun q _ h => pm_free (hw.sub hP.1 hP.2.2.1) q h) (pm_free (hw.sub hP.1 hP.2.2.1)) (fun u t H1 locs1 ht _ hp hB _ hkeep hS => (fun x => kk u.1 u.2 H1 locs1 hp x.1 x.2) (pf_after hw hP.1 hP.2.1 hP.2.2.1 hP.2.2.2.1 hP.2.2.2.2 ht hB hkeep hS))
/-- a call that may throw, over a part of the world; what was thrown goes on at kx -/
theorem pfx_ic {L1 L2 : List Nat} (hP : Pt L L1 L2) {post : Int32 → PE → Prop} {ex : String → PE → Prop} (hw : PW g A s H locs L f) (hr : vx_Run p l e R s m args below meth c H locs cells slots mc ms (F0 m pc ls st0) rest (va_Qi (S := PE) post (Bw g (va_A (va_pl L1 f) H.size)) (va_A (va_pl L1 f) H.size) aa) (Bx g (va_A (va_pl L1 f) H.size) ex) (va_A (va_pl L1 f) H.size))
    (kx : ∀ (E : String) (ce : Cell) (q9 : Addr) (La : List Nat) (f1 : Nat → va_E) (H1 : Heap) (locs1 : List Loc), ex E (La, f1) → (∀ b, b ∈ La → b ∉ L2) → PW g A s H1 locs1 (La ++ L2) (mix L2 f f1) → H1[q9]? = some ce → ce.vm = .none → s.vm.findClass E = some ce.cls → vx_W p l e R s m args below meth c H1 locs1 (cells + mc) (slots + ms) Q (F0 m pc ls rest) q9)
    (kk : ∀ (r : Int32) (La : List Nat) (f1 : Nat → va_E) (H1 : Heap) (locs1 : List Loc), post r (La, f1) → (∀ b, b ∈ La → b ∉ L2) → PW g A s H1 locs1 (La ++ L2) (mix L2 f f1) → W p l e R s m args below meth c H1 locs1 (cells + mc) (slots + ms) Q (F0 m (pc + 3) ls (.int r :: rest))) : W p l e R s m args below meth c H locs cells slots Q (F0 m pc ls st0) :=
  vx_calli hr hw.2.2.2.1 (fun q _ h => pm_free (hw.sub hP.1 hP.2.2.1) q h) (pm_free (hw.sub hP.1 hP.2.2.1)) (fun q _ h => pm_free (hw.sub hP.1 hP.2.2.1) q h)
    (fun E ce q9 u t H1 locs1 ht _ _ hB _ hkeep hS y1 y2 y3 => (fun x => kx E ce q9 u.1 u.2 H1 locs1 hB.1 x.1 x.2 y1 y2 y3) (pf_after hw hP.1 hP.2.1 hP.2.2.1 hP.2.2.2.1 hP.2.2.2.2 ht hB.2 hkeep hS))
    (fun r u t H1 locs1 ht _ hp hB _ hkeep hS => (fun x => kk r u.1 u.2 H1 locs1 hp x.1 x.2) (pf_after hw hP.1 hP.2.1 hP.2.2.1 hP.2.2.2.1 hP.2.2.2.2 ht hB hkeep hS))
/-- a family over a part lies in the whole -/
theorem FW.mixL {dom : Nat → Prop} {fx : Nat → va_E} {La L2 : List Nat} {f f1 : Nat → va_E} {b : Nat → Nat} (h : FW dom fx b La f1) (hd : ∀ x, x ∈ La → x ∉ L2) : FW dom fx b La (mix L2 f f1) :=
  ⟨fun i hi => ⟨h.q hi, (if_neg (hd _ (h.q hi))).trans (h.f hi)⟩, h.2⟩
theorem FW.mixR {dom : Nat → Prop} {fx : Nat → va_E} {L2 : List Nat} {f f1 : Nat → va_E} {b : Nat → Nat} (h : FW dom fx b L2 f) : FW dom fx b L2 (mix L2 f f1) :=
  ⟨fun i hi => ⟨h.q hi, (if_pos (h.q hi)).trans (h.f hi)⟩, h.2⟩
theorem FW.wider {dom : Nat → Prop} {fx : Nat → va_E} {L1 L2 : List Nat} {f : Nat → va_E} {b : Nat → Nat} (h : FW dom fx b L1 f) (hs : ∀ x, x ∈ L1 → x ∈ L2) : FW dom fx b L2 f := ⟨fun i hi => ⟨hs _ (h.q hi), h.f hi⟩, h.2⟩
end FRAME
