/-! a loop whose turns use up room -/
section LOOPC
variable {p : Program} {l : Launch} {e : Env} {R : Room} {s : State} {m : MethodId} {args : Array Value} {below : List Frame} {meth : Method} {c : Code} {H : Heap} {locs : List Loc} {cells slots : Nat} {Q : State → Prop}
variable {cc : ByteArray} {pc : Nat} {ls : Array Slot} {rest : List Value} {g : GE} {A : Nat → Prop} {L : List Nat} {f : Nat → va_E} {a : Nat}
variable {mc ms : Nat} {st0 : List Value} {aa : Array Value}
theorem W_loopC {σ : Type} (I : σ → Heap → List Loc → Array Slot → Nat → Nat → Prop) (μ : σ → Nat) (x0 : σ) (h0 : I x0 H locs ls cells slots)
    (step : ∀ (x : σ) (H : Heap) (locs : List Loc) (ls : Array Slot) (ce sl : Nat), I x H locs ls ce sl → (∀ (y : σ) (H1 : Heap) (locs1 : List Loc) (ls1 : Array Slot) (ce1 sl1 : Nat), μ y < μ x → I y H1 locs1 ls1 ce1 sl1 → W p l e R s m args below meth c H1 locs1 ce1 sl1 Q (F0 m pc ls1 rest)) → W p l e R s m args below meth c H locs ce sl Q (F0 m pc ls rest)) : W p l e R s m args below meth c H locs cells slots Q (F0 m pc ls rest) := by
  have key : ∀ (n : Nat) (x : σ) (H : Heap) (locs : List Loc) (ls : Array Slot) (ce sl : Nat), μ x < n → I x H locs ls ce sl → W p l e R s m args below meth c H locs ce sl Q (F0 m pc ls rest) := by
    intro n
    induction n with
    | zero => intro x H locs ls ce sl h _; exact absurd h (Nat.not_lt_zero _)
    | succ n ih => intro x H locs ls ce sl h hI; exact step x H locs ls ce sl hI (fun y H1 locs1 ls1 ce1 sl1 hy hI1 => ih y H1 locs1 ls1 ce1 sl1 (by omega) hI1)
  exact key (μ x0 + 1) x0 H locs ls cells slots (Nat.lt_succ_self _) h0
end LOOPC
