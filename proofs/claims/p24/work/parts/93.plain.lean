/-! the calls over plain numbers -/
section ZC
/-- the object o holds the numbers S -/
def Wc (g : GE) (o : Nat) (S : CS) (n : Nat) (L : List Nat) (f : Nat → va_E) : Prop := ∃ m : MS, MT m S ∧ Wd g o m S.2.2.2.1.length S.2.2.1.length S.2.1.length n L f
theorem Wc.rcv {g : GE} {o n : Nat} {S : CS} {L : List Nat} {f : Nat → va_E} (h : Wc g o S n L f) : ∃ fs : List Value, o ∈ L ∧ f o = .inr (8, fs) := by
  obtain ⟨m, -, hW⟩ := h
  exact hW.rcv
theorem Ni.imp {l : Launch} {y : MethodName} {ws : List Cond} {rm : Room} {g : GE} {L : List Nat} {f : Nat → va_E} {av : List Value} {post post' : Int32 → PE → Prop} {mc ms : Nat} (h : Ni l y ws rm g L f av post mc ms) (h1 : ∀ r u, post r u → post' r u) : Ni l y ws rm g L f av post' mc ms := fun sz => MF_imp (h sz) (fun a s o t hq => by
  rcases hq with ⟨⟨⟨r, u, e1, hp, hB⟩, hF⟩, hL⟩ | ⟨q, e, E, ce, Lo, ⟨u, hu, ⟨hx, hB⟩, hF⟩, h3⟩
  · exact Or.inl ⟨⟨⟨r, u, e1, h1 r u hp, hB⟩, hF⟩, hL⟩
  · exact hx.elim)
theorem Wd.paid0 {g : GE} {o : Nat} {m : MS} {p0 c0 t0 n : Nat} {L : List Nat} {f : Nat → va_E} (h : Wd g o m p0 c0 t0 n L f) : m 2 p0 = 0 := by
  obtain ⟨a, k, rfl, hk, hi, hle, hR, rfl, rfl⟩ := h
  exact hR.2.2.1.2 _ (Nat.le_refl _)
theorem pB_nI {i p : Nat} (h : i < p) (hp : p < 2 ^ 31) : pB p (nI i) := by
  show 0 ≤ (nI i).toInt ∧ (nI i).toInt < (p : Nat)
  rw [nI_toInt (by omega)]
  omega
theorem kB_nI {m : MS} {k t : Nat} (h : m 0 1 = nI t) (ht : t < 90000) (hk : k ≤ t) : kB m (nI k) := by
  show 0 ≤ (nI k).toInt ∧ (nI k).toInt ≤ (m 0 1).toInt
  rw [h, nI_toInt (by omega), nI_toInt (by omega)]
  omega
theorem in_nI {k a b : Nat} (h1 : a ≤ k) (h2 : k ≤ b) (hb : b < 2 ^ 31) : (a : Int) ≤ (nI k).toInt ∧ (nI k).toInt ≤ (b : Int) := by
  rw [nI_toInt (by omega)]
  omega
/-- the year's rates, by runs -/
abbrev YC (S : CS) (i b kn : Nat) (R : List (Nat × Nat)) : Prop := i < 4 ∧ S.2.2.2.1[i]? = some b ∧ kn < 100000 ∧ yrOK S.2.2.1 S.2.1 b i kn R 365 0 (0, 0, 0, true) = true ∧ (R.all (fun r => Nat.blt r.2 100000)) = true
theorem YC.yr {m : MS} {S : CS} {i b kn : Nat} {R : List (Nat × Nat)} (h : YC S i b kn R) (hM : MT m S) : YR (rtF m i (nI kn) S.2.2.1.length S.2.1.length) (rOf R) := yr_of hM h.1 h.2.1 h.2.2.1 h.2.2.2.1 h.2.2.2.2
theorem sB_of {m : MS} {p0 c0 t0 d : Nat} {sg kn : Int32} (hp : p0 ≤ 4) (h : segOf (rtF m 0 kn c0 t0) sg d) : sB m p0 c0 t0 0 sg kn := fun i hi e => by
  have e2 : nI 0 = nI i := e
  have e3 := (nI_eq (by decide) (by omega)).mp e2
  subst e3
  exact ⟨d, h⟩
set_option maxHeartbeats 1000000 in
theorem z_today (l : Launch) (g : GE) (L : List Nat) (f : Nat → va_E) {o n : Nat} {S : CS} (hS : Wc g o S n L f) {v : Int32} (hv : nI S.1 = v) : Mi l yX6_today wsX6_today (rmH 0 0 0) g L f [.ref o] (fun r u => r = v ∧ Wc g o S n u.1 u.2) 0 0 := by
  obtain ⟨m, hM, hW⟩ := hS
  have hI := hW.inv
  have hp4 := hI.2.1.1
  have hc60 := hI.2.1.2.2
  have hT := hM.1.1
  have hT9 := hM.1.2.1
  subst hv
  exact (q_today l g L f hW).imp (fun r u h => ⟨h.1.trans hT, m, hM, h.2⟩)
set_option maxHeartbeats 1000000 in
theorem z_changes (l : Launch) (g : GE) (L : List Nat) (f : Nat → va_E) {o n : Nat} {S : CS} (hS : Wc g o S n L f) {v : Int32} (hv : nI S.2.2.1.length = v) : Mi l yX6_changes wsX6_changes (rmH 1 0 0) g L f [.ref o] (fun r u => r = v ∧ Wc g o S n u.1 u.2) 0 0 := by
  obtain ⟨m, hM, hW⟩ := hS
  have hI := hW.inv
  have hp4 := hI.2.1.1
  have hc60 := hI.2.1.2.2
  have hT := hM.1.1
  have hT9 := hM.1.2.1
  subst hv
  exact (q_changes l g L f hW).imp (fun r u h => ⟨h.1, m, hM, h.2⟩)
set_option maxHeartbeats 1000000 in
theorem z_open (l : Launch) (hst : l.stackTraces = false) (g : GE) (L : List Nat) (f : Nat → va_E) {o n : Nat} {S : CS} (hS : Wc g o S n L f) {x : Int32} (b : Nat) (hx : x = nI b) (hb : 1 ≤ b ∧ b ≤ 1000) (h4 : S.2.2.2.1.length < 4) {v : Int32} (hv : nI S.2.2.2.1.length = v) {S2 : CS} (hS2 : opS S b = S2) : Xi l yX6_open wsX6_open (rmH 8 6 300) g L f [.ref o, .int x] (fun r u => r = v ∧ Wc g o S2 (n + 1) u.1 u.2) (fun _ _ => False) 6 300 := by
  obtain ⟨m, hM, hW⟩ := hS
  have hI := hW.inv
  have hp4 := hI.2.1.1
  have hc60 := hI.2.1.2.2
  have hT := hM.1.1
  have hT9 := hM.1.2.1
  subst hx hv hS2
  refine ((q_open l hst g L f hW (nI b)).sure ⟨in_nI hb.1 hb.2 (by decide), h4, trivial⟩).imp (fun r u h => ⟨h.1, _, hM.op hb.2 hW.paid0, ?_⟩) (fun _ _ h => h)
  have e : (opS S b).2.2.2.1.length = S.2.2.2.1.length + 1 := List.length_append
  rw [e]
  exact h.2
set_option maxHeartbeats 1000000 in
theorem z_setWeight (l : Launch) (hst : l.stackTraces = false) (g : GE) (L : List Nat) (f : Nat → va_E) {o n : Nat} {S : CS} (hS : Wc g o S n L f) {y w z : Int32} (c q d : Nat) (hy : y = nI c) (hw : w = nI q) (hz : z = nI d) (hok : okT (c, q, d)) (h20 : S.2.1.length < 20) {v : Int32} (hv : nI (S.2.1.length + 1) = v) {S2 : CS} (hS2 : trS S c q d = S2) : Xi l yX6_setWeight wsX6_setWeight (rmH 2 4 24) g L f [.ref o, .int y, .int w, .int z] (fun r u => r = v ∧ Wc g o S2 (n + 1) u.1 u.2) (fun _ _ => False) 4 24 := by
  obtain ⟨m, hM, hW⟩ := hS
  have hI := hW.inv
  have hp4 := hI.2.1.1
  have hc60 := hI.2.1.2.2
  have hT := hM.1.1
  have hT9 := hM.1.2.1
  subst hy hw hz hv hS2
  refine ((q_setWeight l hst g L f hW (nI c) (nI q) (nI d)).sure ⟨fld_at hok.1 rfl, in_nI (Nat.zero_le q) hok.2.1 (by decide), day_at hok.2.2 rfl, h20, trivial⟩).imp (fun r u h => ⟨h.1, _, hM.tr hok, ?_⟩) (fun _ _ h => h)
  have e : (trS S c q d).2.1.length = S.2.1.length + 1 := List.length_append
  rw [e]
  exact h.2
set_option maxHeartbeats 1000000 in
theorem z_pass (l : Launch) (hst : l.stackTraces = false) (g : GE) (L : List Nat) (f : Nat → va_E) {o n : Nat} {S : CS} (hS : Wc g o S n L f) {x : Int32} (hn : n ≤ 512) (q : Nat) (hx : x = nI q) (hq : 1 ≤ q ∧ q ≤ 100) (h9 : S.1 + q < 90000) {v : Int32} (hv : nI (S.1 + q) = v) {S2 : CS} (hS2 : psS S q = S2) : Xi l yX6_pass wsX6_pass (rmH 1 1 6) g L f [.ref o, .int x] (fun r u => r = v ∧ Wc g o S2 (n + 1) u.1 u.2) (fun _ _ => False) 1 6 := by
  obtain ⟨m, hM, hW⟩ := hS
  have hI := hW.inv
  have hp4 := hI.2.1.1
  have hc60 := hI.2.1.2.2
  have hT := hM.1.1
  have hT9 := hM.1.2.1
  subst hx hv hS2
  refine ((q_pass l hst g L f hW hn (nI q)).sure ⟨in_nI hq.1 hq.2 (by decide), trivial⟩).imp (fun r u h => ⟨?_, _, hM.ps h9, h.2⟩) (fun _ _ h => h)
  rw [h.1, hT, nI_add]
set_option maxHeartbeats 1000000 in
theorem z_change (l : Launch) (hst : l.stackTraces = false) (g : GE) (L : List Nat) (f : Nat → va_E) {o n : Nat} {S : CS} (hS : Wc g o S n L f) {x y z w : Int32} (i c d q : Nat) (hx : x = nI i) (hy : y = nI c) (hz : z = nI d) (hw : w = numI q) (hi : i < S.2.2.2.1.length) (hok : okC (i, 0, c, d, q, S.1, 0)) (h60 : S.2.2.1.length < 60) {v : Int32} (hv : nI S.2.2.1.length = v) {S2 : CS} (hS2 : teS S i 0 c d q = S2) : Xi l yX6_change wsX6_change (rmH 9 8 524) g L f [.ref o, .int x, .int y, .int z, .int w] (fun r u => r = v ∧ Wc g o S2 (n + 1) u.1 u.2) (fun _ _ => False) 8 524 := by
  obtain ⟨m, hM, hW⟩ := hS
  have hI := hW.inv
  have hp4 := hI.2.1.1
  have hc60 := hI.2.1.2.2
  have hT := hM.1.1
  have hT9 := hM.1.2.1
  subst hx hy hz hw hv hS2
  refine ((q_change l hst g L f hW (nI i) (nI c) (nI d) (numI q)).sure ⟨pB_nI hi (by omega), fld_at hok.1.2.2.1 rfl, day_at hok.1.2.2.2 rfl, ⟨by rw [numI_toInt (show q ≤ 40 from hok.2.1.1)]; have h20 : 20 ≤ q := hok.2.1.2 rfl; omega, by rw [numI_toInt (show q ≤ 40 from hok.2.1.1)]; have h40 : q ≤ 40 := hok.2.1.1; omega⟩, h60, trivial⟩).imp (fun r u h => ⟨h.1, _, hM.te hok, ?_⟩) (fun _ _ h => h)
  have e : (teS S i 0 c d q).2.2.1.length = S.2.2.1.length + 1 := List.length_append
  rw [e]
  exact h.2
set_option maxHeartbeats 1000000 in
theorem z_add (l : Launch) (hst : l.stackTraces = false) (g : GE) (L : List Nat) (f : Nat → va_E) {o n : Nat} {S : CS} (hS : Wc g o S n L f) {x y z w : Int32} (i c d q : Nat) (hx : x = nI i) (hy : y = nI c) (hz : z = nI d) (hw : w = numI q) (hi : i < S.2.2.2.1.length) (hok : okC (i, 1, c, d, q, S.1, 0)) (h60 : S.2.2.1.length < 60) {v : Int32} (hv : nI S.2.2.1.length = v) {S2 : CS} (hS2 : teS S i 1 c d q = S2) : Xi l yX6_add wsX6_add (rmH 9 8 524) g L f [.ref o, .int x, .int y, .int z, .int w] (fun r u => r = v ∧ Wc g o S2 (n + 1) u.1 u.2) (fun _ _ => False) 8 524 := by
  obtain ⟨m, hM, hW⟩ := hS
  have hI := hW.inv
  have hp4 := hI.2.1.1
  have hc60 := hI.2.1.2.2
  have hT := hM.1.1
  have hT9 := hM.1.2.1
  subst hx hy hz hw hv hS2
  refine ((q_add l hst g L f hW (nI i) (nI c) (nI d) (numI q)).sure ⟨pB_nI hi (by omega), fld_at hok.1.2.2.1 rfl, day_at hok.1.2.2.2 rfl, ⟨by rw [numI_toInt (show q ≤ 40 from hok.2.1.1)]; omega, by rw [numI_toInt (show q ≤ 40 from hok.2.1.1)]; have h40 : q ≤ 40 := hok.2.1.1; omega⟩, h60, trivial⟩).imp (fun r u h => ⟨h.1, _, hM.te hok, ?_⟩) (fun _ _ h => h)
  have e : (teS S i 1 c d q).2.2.1.length = S.2.2.1.length + 1 := List.length_append
  rw [e]
  exact h.2
set_option maxHeartbeats 1000000 in
theorem z_cancel (l : Launch) (hst : l.stackTraces = false) (g : GE) (L : List Nat) (f : Nat → va_E) {o n : Nat} {S : CS} (hS : Wc g o S n L f) {x z : Int32} (i d : Nat) (hx : x = nI i) (hz : z = nI d) (hi : i < S.2.2.2.1.length) (hok : okC (i, 2, 0, d, 20, S.1, 0)) (h60 : S.2.2.1.length < 60) {v : Int32} (hv : nI S.2.2.1.length = v) {S2 : CS} (hS2 : teS S i 2 0 d 20 = S2) : Xi l yX6_cancel wsX6_cancel (rmH 9 6 512) g L f [.ref o, .int x, .int z] (fun r u => r = v ∧ Wc g o S2 (n + 1) u.1 u.2) (fun _ _ => False) 6 512 := by
  obtain ⟨m, hM, hW⟩ := hS
  have hI := hW.inv
  have hp4 := hI.2.1.1
  have hc60 := hI.2.1.2.2
  have hT := hM.1.1
  have hT9 := hM.1.2.1
  subst hx hz hv hS2
  refine ((q_cancel l hst g L f hW (nI i) (nI d)).sure ⟨pB_nI hi (by omega), day_at hok.1.2.2.2 rfl, h60, trivial⟩).imp (fun r u h => ⟨h.1, _, hM.te hok, ?_⟩) (fun _ _ h => h)
  have e : (teS S i 2 0 d 20).2.2.1.length = S.2.2.1.length + 1 := List.length_append
  rw [e]
  exact h.2
set_option maxHeartbeats 1000000 in
theorem z_reinstate (l : Launch) (hst : l.stackTraces = false) (g : GE) (L : List Nat) (f : Nat → va_E) {o n : Nat} {S : CS} (hS : Wc g o S n L f) {x z : Int32} (i d : Nat) (hx : x = nI i) (hz : z = nI d) (hi : i < S.2.2.2.1.length) (hok : okC (i, 3, 0, d, 20, S.1, 0)) (h60 : S.2.2.1.length < 60) {v : Int32} (hv : nI S.2.2.1.length = v) {S2 : CS} (hS2 : teS S i 3 0 d 20 = S2) : Xi l yX6_reinstate wsX6_reinstate (rmH 9 6 512) g L f [.ref o, .int x, .int z] (fun r u => r = v ∧ Wc g o S2 (n + 1) u.1 u.2) (fun _ _ => False) 6 512 := by
  obtain ⟨m, hM, hW⟩ := hS
  have hI := hW.inv
  have hp4 := hI.2.1.1
  have hc60 := hI.2.1.2.2
  have hT := hM.1.1
  have hT9 := hM.1.2.1
  subst hx hz hv hS2
  refine ((q_reinstate l hst g L f hW (nI i) (nI d)).sure ⟨pB_nI hi (by omega), day_at hok.1.2.2.2 rfl, h60, trivial⟩).imp (fun r u h => ⟨h.1, _, hM.te hok, ?_⟩) (fun _ _ h => h)
  have e : (teS S i 3 0 d 20).2.2.1.length = S.2.2.1.length + 1 := List.length_append
  rw [e]
  exact h.2
set_option maxHeartbeats 1000000 in
theorem z_takeBack (l : Launch) (hst : l.stackTraces = false) (g : GE) (L : List Nat) (f : Nat → va_E) {o n : Nat} {S : CS} (hS : Wc g o S n L f) {x : Int32} (j : Nat) (hx : x = nI j) {c : Chg} (hj : S.2.2.1[j]? = some c) (h0 : c.2.2.2.2.2.2 = 0) {v : Int32} (hv : nI c.2.2.2.2.2.1 = v) {S2 : CS} (hS2 : tkS S j c = S2) : Xi l yX6_takeBack wsX6_takeBack (rmH 4 2 12) g L f [.ref o, .int x] (fun r u => r = v ∧ Wc g o S2 (n + 1) u.1 u.2) (fun _ _ => False) 2 12 := by
  obtain ⟨m, hM, hW⟩ := hS
  have hI := hW.inv
  have hp4 := hI.2.1.1
  have hc60 := hI.2.1.2.2
  have hT := hM.1.1
  have hT9 := hM.1.2.1
  subst hx hv hS2
  have hl := get_lt hj
  obtain ⟨⟨-, -, a11, a12⟩, -⟩ := hM.2.2.1 j c hj
  have q := q_takeBack l hst g L f hW (nI j)
  rw [ix_nI (by omega)] at q
  refine (q.sure ⟨pB_nI hl (by omega), by rw [a12, h0]; rfl, trivial⟩).imp (fun r u h => ⟨h.1.trans a11, _, hM.tk hj, ?_⟩) (fun _ _ h => h)
  have e : (tkS S j c).2.2.1.length = S.2.2.1.length := List.length_set
  rw [e]
  exact h.2
set_option maxHeartbeats 1000000 in
theorem z_laidAnew (l : Launch) (hst : l.stackTraces = false) (g : GE) (L : List Nat) (f : Nat → va_E) {o n : Nat} {S : CS} (hS : Wc g o S n L f) {x : Int32} (j : Nat) (hx : x = nI j) {c : Chg} (hj : S.2.2.1[j]? = some c) {v : Int32} (hv : nI (laN S.2.2.1 S.1 c j) = v) : Xi l yX6_laidAnew wsX6_laidAnew (rmH 4 1 6) g L f [.ref o, .int x] (fun r u => r = v ∧ Wc g o S n u.1 u.2) (fun _ _ => False) 1 6 := by
  obtain ⟨m, hM, hW⟩ := hS
  have hI := hW.inv
  have hp4 := hI.2.1.1
  have hc60 := hI.2.1.2.2
  have hT := hM.1.1
  have hT9 := hM.1.2.1
  subst hx hv
  have hl := get_lt hj
  have q := q_laidAnew l hst g L f hW (nI j)
  rw [ix_nI (by omega), la_tie hM hj j (by omega)] at q
  exact (q.sure ⟨pB_nI hl (by omega), trivial⟩).imp (fun r u h => ⟨h.1, m, hM, h.2⟩) (fun _ _ h => h)
set_option maxHeartbeats 1000000 in
theorem z_value (l : Launch) (hst : l.stackTraces = false) (g : GE) (L : List Nat) (f : Nat → va_E) {o n : Nat} {S : CS} (hS : Wc g o S n L f) {x y z kn : Int32} (i c d k : Nat) (hx : x = nI i) (hy : y = nI c) (hz : z = nI d) (hk : kn = nI k) (hi : i < S.2.2.2.1.length) (hok : c < 3 ∧ d < 365 ∧ k ≤ S.1) {v : Int32} (hv : nI (getN (goN S.2.2.1 i k (d + 1)) c) = v) : Xi l yX6_value wsX6_value (rmH 6 4 24) g L f [.ref o, .int x, .int y, .int z, .int kn] (fun r u => r = v ∧ Wc g o S n u.1 u.2) (fun _ _ => False) 4 24 := by
  obtain ⟨m, hM, hW⟩ := hS
  have hI := hW.inv
  have hp4 := hI.2.1.1
  have hc60 := hI.2.1.2.2
  have hT := hM.1.1
  have hT9 := hM.1.2.1
  subst hx hy hz hk hv
  obtain ⟨k1, k2, k3⟩ := hok
  have q := q_value l hst g L f hW (nI i) (nI c) (nI d) (nI k)
  rw [ix_nI (by omega), ix_nI (by omega), ix_nI (by omega), (get_tie (go_tie hM.2.2.1 (i := i) (kn := k) (by omega) (by omega) (d + 1) (by omega)) k1).1] at q
  exact (q.sure ⟨pB_nI hi (by omega), fld_at k1 rfl, day_at k2 rfl, kB_nI hT hT9 k3, trivial⟩).imp (fun r u h => ⟨h.1, m, hM, h.2⟩) (fun _ _ h => h)
set_option maxHeartbeats 1000000 in
theorem z_isCovered (l : Launch) (hst : l.stackTraces = false) (g : GE) (L : List Nat) (f : Nat → va_E) {o n : Nat} {S : CS} (hS : Wc g o S n L f) {x z kn : Int32} (i d k : Nat) (hx : x = nI i) (hz : z = nI d) (hk : kn = nI k) (hi : i < S.2.2.2.1.length) (hok : d < 365 ∧ k ≤ S.1) {v : Int32} (hv : (if (goN S.2.2.1 i k (d + 1)).2.2.2 = true then (1 : Int32) else 0) = v) : Xi l yX6_isCovered wsX6_isCovered (rmH 6 3 18) g L f [.ref o, .int x, .int z, .int kn] (fun r u => r = v ∧ Wc g o S n u.1 u.2) (fun _ _ => False) 3 18 := by
  obtain ⟨m, hM, hW⟩ := hS
  have hI := hW.inv
  have hp4 := hI.2.1.1
  have hc60 := hI.2.1.2.2
  have hT := hM.1.1
  have hT9 := hM.1.2.1
  subst hx hz hk hv
  obtain ⟨k2, k3⟩ := hok
  have q := q_isCovered l hst g L f hW (nI i) (nI d) (nI k)
  rw [ix_nI (by omega), ix_nI (by omega), (go_tie hM.2.2.1 (i := i) (kn := k) (by omega) (by omega) (d + 1) (by omega)).2.1] at q
  exact (q.sure ⟨pB_nI hi (by omega), day_at k2 rfl, kB_nI hT hT9 k3, trivial⟩).imp (fun r u h => ⟨h.1, m, hM, h.2⟩) (fun _ _ h => h)
set_option maxHeartbeats 1000000 in
theorem z_rate (l : Launch) (hst : l.stackTraces = false) (g : GE) (L : List Nat) (f : Nat → va_E) {o n : Nat} {S : CS} (hS : Wc g o S n L f) {x z kn : Int32} (i b d k : Nat) (hx : x = nI i) (hz : z = nI d) (hk : kn = nI k) (hb : S.2.2.2.1[i]? = some b) (hok : d < 365 ∧ k ≤ S.1) {v : Int32} (hv : nI (rtN S.2.1 b d (goN S.2.2.1 i k (d + 1))) = v) : Xi l yX6_rate wsX6_rate (rmH 6 3 18) g L f [.ref o, .int x, .int z, .int kn] (fun r u => r = v ∧ Wc g o S n u.1 u.2) (fun _ _ => False) 3 18 := by
  obtain ⟨m, hM, hW⟩ := hS
  have hI := hW.inv
  have hp4 := hI.2.1.1
  have hc60 := hI.2.1.2.2
  have hT := hM.1.1
  have hT9 := hM.1.2.1
  subst hx hz hk hv
  obtain ⟨k2, k3⟩ := hok
  have hi := get_lt hb
  have q := q_rate l hst g L f hW (nI i) (nI d) (nI k)
  rw [ix_nI (by omega), ix_nI (by omega), rt_tie hM (by omega) hb (by omega) k2] at q
  exact (q.sure ⟨pB_nI hi (by omega), day_at k2 rfl, kB_nI hT hT9 k3, trivial⟩).imp (fun r u h => ⟨h.1, m, hM, h.2⟩) (fun _ _ h => h)
set_option maxHeartbeats 1000000 in
theorem z_segments (l : Launch) (hst : l.stackTraces = false) (g : GE) (L : List Nat) (f : Nat → va_E) {o n : Nat} {S : CS} (hS : Wc g o S n L f) {x kn : Int32} (i k : Nat) (hx : x = nI i) (hk : kn = nI k) {b : Nat} {R : List (Nat × Nat)} (hY : YC S i b k R) (hkt : k ≤ S.1) {v : Int32} (hv : nI (cntF (rOf R) 365) = v) : Xi l yX6_segments wsX6_segments (rmH 6 2 12) g L f [.ref o, .int x, .int kn] (fun r u => r = v ∧ Wc g o S n u.1 u.2) (fun _ _ => False) 2 12 := by
  obtain ⟨m, hM, hW⟩ := hS
  have hI := hW.inv
  have hp4 := hI.2.1.1
  have hc60 := hI.2.1.2.2
  have hT := hM.1.1
  have hT9 := hM.1.2.1
  subst hx hk hv
  have hi := get_lt hY.2.1
  have hy := hY.yr hM
  have q := q_segments l hst g L f hW (nI i) (nI k)
  rw [ix_nI (by omega), cs_of hy rfl] at q
  exact (q.sure ⟨pB_nI hi (by omega), kB_nI hT hT9 hkt, trivial⟩).imp (fun r u h => ⟨h.1, m, hM, h.2⟩) (fun _ _ h => h)
set_option maxHeartbeats 1000000 in
theorem z_premium (l : Launch) (hst : l.stackTraces = false) (g : GE) (L : List Nat) (f : Nat → va_E) {o n : Nat} {S : CS} (hS : Wc g o S n L f) {x kn : Int32} (i k : Nat) (hx : x = nI i) (hk : kn = nI k) {b : Nat} {R : List (Nat × Nat)} (hY : YC S i b k R) (hkt : k ≤ S.1) {v : Int32} (hv : nI (smF (rOf R) 365) / 365 = v) : Xi l yX6_premium wsX6_premium (rmH 7 2 12) g L f [.ref o, .int x, .int kn] (fun r u => r = v ∧ Wc g o S n u.1 u.2) (fun _ _ => False) 2 12 := by
  obtain ⟨m, hM, hW⟩ := hS
  have hI := hW.inv
  have hp4 := hI.2.1.1
  have hc60 := hI.2.1.2.2
  have hT := hM.1.1
  have hT9 := hM.1.2.1
  subst hx hk hv
  have hi := get_lt hY.2.1
  have hy := hY.yr hM
  have q := q_premium l hst g L f hW (nI i) (nI k)
  rw [ix_nI (by omega), pm_of hy rfl] at q
  exact (q.sure ⟨pB_nI hi (by omega), kB_nI hT hT9 hkt, trivial⟩).imp (fun r u h => ⟨h.1, m, hM, h.2⟩) (fun _ _ h => h)
set_option maxHeartbeats 1000000 in
theorem z_premiumByDays (l : Launch) (hst : l.stackTraces = false) (g : GE) (L : List Nat) (f : Nat → va_E) {o n : Nat} {S : CS} (hS : Wc g o S n L f) {x kn : Int32} (i k : Nat) (hx : x = nI i) (hk : kn = nI k) {b : Nat} {R : List (Nat × Nat)} (hY : YC S i b k R) (hkt : k ≤ S.1) {v : Int32} (hv : nI (smF (rOf R) 365) / 365 = v) : Xi l yX6_premiumByDays wsX6_premiumByDays (rmH 6 2 12) g L f [.ref o, .int x, .int kn] (fun r u => r = v ∧ Wc g o S n u.1 u.2) (fun _ _ => False) 2 12 := by
  obtain ⟨m, hM, hW⟩ := hS
  have hI := hW.inv
  have hp4 := hI.2.1.1
  have hc60 := hI.2.1.2.2
  have hT := hM.1.1
  have hT9 := hM.1.2.1
  subst hx hk hv
  have hi := get_lt hY.2.1
  have hy := hY.yr hM
  have q := q_premiumByDays l hst g L f hW (nI i) (nI k)
  rw [ix_nI (by omega), pm_of hy rfl] at q
  exact (q.sure ⟨pB_nI hi (by omega), kB_nI hT hT9 hkt, trivial⟩).imp (fun r u h => ⟨h.1, m, hM, h.2⟩) (fun _ _ h => h)
set_option maxHeartbeats 1000000 in
theorem z_bill (l : Launch) (hst : l.stackTraces = false) (g : GE) (L : List Nat) (f : Nat → va_E) {o n : Nat} {S : CS} (hS : Wc g o S n L f) {x : Int32} (i : Nat) (hx : x = nI i) {b : Nat} {R : List (Nat × Nat)} (hY : YC S i b S.1 R) {pd pm v : Int32} (hpd : S.2.2.2.2[i]? = some pd) (hpm : nI (smF (rOf R) 365) / 365 = pm) (hv : pm - pd = v) {S2 : CS} (hS2 : blS S i pm = S2) : Xi l yX6_bill wsX6_bill (rmH 7 1 6) g L f [.ref o, .int x] (fun r u => r = v ∧ Wc g o S2 (n + 1) u.1 u.2) (fun _ _ => False) 1 6 := by
  obtain ⟨m, hM, hW⟩ := hS
  have hI := hW.inv
  have hp4 := hI.2.1.1
  have hc60 := hI.2.1.2.2
  have hT := hM.1.1
  have hT9 := hM.1.2.1
  subst hx hv hS2
  have hi := get_lt hY.2.1
  have hy := hY.yr hM
  rw [← hT] at hy
  have q := q_bill l hst g L f hW (nI i)
  rw [ix_nI (by omega), pm_of hy hpm, hM.2.2.2.2 i pd hpd] at q
  exact (q.sure ⟨pB_nI hi (by omega), trivial⟩).imp (fun r u h => ⟨h.1, _, hM.bl, h.2⟩) (fun _ _ h => h)
set_option maxHeartbeats 1000000 in
theorem z_billed (l : Launch) (hst : l.stackTraces = false) (g : GE) (L : List Nat) (f : Nat → va_E) {o n : Nat} {S : CS} (hS : Wc g o S n L f) {x : Int32} (i : Nat) (hx : x = nI i) {v : Int32} (hpd : S.2.2.2.2[i]? = some v) : Xi l yX6_billed wsX6_billed (rmH 4 1 6) g L f [.ref o, .int x] (fun r u => r = v ∧ Wc g o S n u.1 u.2) (fun _ _ => False) 1 6 := by
  obtain ⟨m, hM, hW⟩ := hS
  have hI := hW.inv
  have hp4 := hI.2.1.1
  have hc60 := hI.2.1.2.2
  have hT := hM.1.1
  have hT9 := hM.1.2.1
  subst hx
  have hi : i < S.2.2.2.1.length := by
    have h1 := get_lt hpd
    have h2 := hM.1.2.2
    omega
  have q := q_billed l hst g L f hW (nI i)
  rw [ix_nI (by omega), hM.2.2.2.2 i v hpd] at q
  exact (q.sure ⟨pB_nI hi (by omega), trivial⟩).imp (fun r u h => ⟨h.1, m, hM, h.2⟩) (fun _ _ h => h)
set_option maxHeartbeats 1000000 in
theorem z_segmentStart (l : Launch) (hst : l.stackTraces = false) (g : GE) (L : List Nat) (f : Nat → va_E) {o n : Nat} {S : CS} (hS : Wc g o S n L f) {x sg kn : Int32} (i s e q k : Nat) (hx : x = nI i) (hs : sg = nI q) (hk : kn = nI k) {b : Nat} {R : List (Nat × Nat)} (hY : YC S i b k R) (hkt : k ≤ S.1) {pr v : Int32} (hok : sgOK (rOf R) q s e pr) (hv : nI s = v) : Xi l yX6_segmentStart wsX6_segmentStart (rmH 7 3 18) g L f [.ref o, .int x, .int sg, .int kn] (fun r u => r = v ∧ Wc g o S n u.1 u.2) (fun _ _ => False) 3 18 := by
  obtain ⟨m, hM, hW⟩ := hS
  have hI := hW.inv
  have hp4 := hI.2.1.1
  have hT := hM.1.1
  have hT9 := hM.1.2.1
  subst hx hs hk hv
  have hi := get_lt hY.2.1
  have hy := hY.yr hM
  obtain ⟨g1, g2, g3⟩ := sg_of hy hok
  have q9 := q_segmentStart l hst g L f hW (nI i) (nI q) (nI k)
  rw [ix_nI (by omega)] at q9
  refine (q9.sure ⟨kB_nI hT hT9 hkt, pB_nI hi (by omega), fun i2 h8 h9 => ?_, trivial⟩).imp (fun r u h => ?_) (fun _ _ h => h)
  · have e9 := (nI_eq (by omega) (by omega)).mp h9
    subst e9
    exact ⟨s, g1⟩
  · obtain ⟨⟨d, h1, h2⟩, h3⟩ := h
    obtain rfl := seg_un h1 g1
    exact ⟨h2, m, hM, h3⟩
set_option maxHeartbeats 8000000 in
set_option maxRecDepth 100000 in
theorem l_premium (l : Launch) (hst : l.stackTraces = false) (g : GE) (L : List Nat) (f : Nat → va_E) {o : Nat} {m : MS} {p0 c0 t0 n : Nat} (hW : Wd g o m p0 c0 t0 n L f) (hp0 : 0 < p0) (kn due : Int32) (hk : kB m kn) (hd : pmM m 0 kn c0 t0 = due) : Ni l yL_premium wsL_premium (rmH 8 4 24) g L f [.ref o, .int kn, .int due] (fun r u => r = 1 ∧ Wd g o m p0 c0 t0 n u.1 u.2) 4 24 := by
  intro sz
  refine vx_ofW (cc := cL_premium) (maxL := 3) (ret := some .boolean) (by decide) rfl ?_
  intro p e s mI args below meth c s₁ B hml htab hv
  obtain ⟨rfl, hv⟩ := hv
  have hx := B.exec
  have hb := B.bytes
  have hr := B.returns
  have hts := atoms_spec (ws := wsL_premium) B.pre
  have hown : s.vm.findClass RL = some mI.cls := findClass_of_methodNamed B.named
  have hlocks := B.notSynchronized
  obtain ⟨⟨rfl, hw, hs⟩, hN⟩ := pn_begin hv
  generalize va_A (va_pl L f) s.heap.size = A at hw hs ⊢
  have CF := (⟨hx, hb, hml, hown, hts⟩ : CallFix p mI c cL_premium 3 s _ wsL_premium RL)
  have hl := lv_entry ([.ref o, .int kn, .int due]) (n := 3) (Nat.le_of_ble_eq_true rfl)
  rw [lg_entry_eq]
  generalize (lg_sl ([.ref o, .int kn, .int due]) ++ List.replicate (3 - (lg_sl ([.ref o, .int kn, .int due])).length) Slot.unset).toArray = ls at hl ⊢
  have hl : lv_has ls 3 [(0, .ref o), (1, .int kn), (2, .int due)] := hl
  have pb0 : pB p0 0 := pb_0 hp0
  refine lv_aload_n hx hb dL_premium_0 rfl (lv_at hl 0 rfl) ?_
  refine lv_iconst (v := 0) hx hb dL_premium_1 (by decide) ?_
  refine lv_iload_n hx hb dL_premium_2 rfl (lv_at hl 1 rfl) ?_
  obtain ⟨fs9, hq9, hf9⟩ := hW.rcv
  refine px_ic hw (vx_runV (As := [.int 0, .int kn]) (rest := []) CF ((q_premium l hst g _ _ hW 0 kn).sure ⟨pb0, hk, trivial⟩ _) (cwV 2 hts gL_premium_X6_premium rfl rfl rfl (by decide +kernel) ⟨Nat.le_of_ble_eq_true rfl, Nat.le_of_ble_eq_true rfl⟩) (pm_preV hw hs (pm_recv hw hq9 hf9 rfl)) rfl rfl hl.1 rfl (lv_room (Nat.le_of_ble_eq_true rfl)) dL_premium_3 ⟨by show _ ≤ 4; omega, by show _ ≤ 24; omega⟩) (fun E9 ce9 q9 L9 f9 H9 locs9 he9 _ _ _ _ => False.elim he9) (fun r9 La fa Ha loca hp hw9 => ?_)
  clear hw hW fs9 hq9 hf9
  have hw := hw9
  clear hw9
  obtain rfl : due = r9 := (hp.1.trans hd).symm
  have hW : Wd g o m p0 c0 t0 n La fa := hp.2
  clear hp
  refine lv_iload_n hx hb dL_premium_6 rfl (lv_at hl 2 rfl) ?_
  refine lv_icmp_ne (tgt := 24) hx hb dL_premium_7 (by decide) (fun h9 => absurd h9 (fun q9 => q9 rfl)) (fun _ => ?_)
  refine lv_aload_n hx hb dL_premium_10 rfl (lv_at hl 0 rfl) ?_
  refine lv_iconst (v := 0) hx hb dL_premium_11 (by decide) ?_
  refine lv_iload_n hx hb dL_premium_12 rfl (lv_at hl 1 rfl) ?_
  obtain ⟨fs9, hq9, hf9⟩ := hW.rcv
  refine px_ic hw (vx_runV (As := [.int 0, .int kn]) (rest := []) CF ((q_premiumByDays l hst g _ _ hW 0 kn).sure ⟨pb0, hk, trivial⟩ _) (cwV 2 hts gL_premium_X6_premiumByDays rfl rfl rfl (by decide +kernel) ⟨Nat.le_of_ble_eq_true rfl, Nat.le_of_ble_eq_true rfl⟩) (pm_preV hw hs (pm_recv hw hq9 hf9 rfl)) rfl rfl hl.1 rfl (lv_room (Nat.le_of_ble_eq_true rfl)) dL_premium_13 ⟨by show _ ≤ 4; omega, by show _ ≤ 24; omega⟩) (fun E9 ce9 q9 L9 f9 H9 locs9 he9 _ _ _ _ => False.elim he9) (fun r9 Lb fb Hb locb hp hw9 => ?_)
  clear hw hW fs9 hq9 hf9
  try clear loca Ha fa La
  have hw := hw9
  clear hw9
  obtain rfl : due = r9 := (hp.1.trans hd).symm
  have hW : Wd g o m p0 c0 t0 n Lb fb := hp.2
  clear hp
  refine lv_iload_n hx hb dL_premium_16 rfl (lv_at hl 2 rfl) ?_
  refine lv_icmp_ne (tgt := 24) hx hb dL_premium_17 (by decide) (fun h9 => absurd h9 (fun q9 => q9 rfl)) (fun _ => ?_)
  refine lv_iconst (v := 1) hx hb dL_premium_20 (by decide) ?_
  refine lv_goto (tgt := 25) hx hb dL_premium_21 (by decide) ?_
  exact vx_ret (pr_i (v := 1) hx hb hr hlocks hw rfl ⟨by omega, by omega⟩ ⟨rfl, hW⟩ dL_premium_25)
set_option maxHeartbeats 8000000 in
set_option maxRecDepth 100000 in
theorem l_segment (l : Launch) (hst : l.stackTraces = false) (g : GE) (L : List Nat) (f : Nat → va_E) {o : Nat} {m : MS} {p0 c0 t0 n : Nat} (hW : Wd g o m p0 c0 t0 n L f) (hp0 : 0 < p0) (sg kn bg pr : Int32) (d : Nat) (hk : kB m kn) (h1 : segOf (rtF m 0 kn c0 t0) sg d) (h2 : nI d = bg) (h3 : SM (rtF m 0 kn c0 t0) (endD (rtF m 0 kn c0 t0) d) / 365 - SM (rtF m 0 kn c0 t0) d / 365 = pr) : Ni l yL_segment wsL_segment (rmH 8 6 36) g L f [.ref o, .int sg, .int kn, .int bg, .int pr] (fun r u => r = 1 ∧ Wd g o m p0 c0 t0 n u.1 u.2) 6 36 := by
  intro sz
  refine vx_ofW (cc := cL_segment) (maxL := 5) (ret := some .boolean) (by decide) rfl ?_
  intro p e s mI args below meth c s₁ B hml htab hv
  obtain ⟨rfl, hv⟩ := hv
  have hx := B.exec
  have hb := B.bytes
  have hr := B.returns
  have hts := atoms_spec (ws := wsL_segment) B.pre
  have hown : s.vm.findClass RL = some mI.cls := findClass_of_methodNamed B.named
  have hlocks := B.notSynchronized
  obtain ⟨⟨rfl, hw, hs⟩, hN⟩ := pn_begin hv
  generalize va_A (va_pl L f) s.heap.size = A at hw hs ⊢
  have CF := (⟨hx, hb, hml, hown, hts⟩ : CallFix p mI c cL_segment 5 s _ wsL_segment RL)
  have hl := lv_entry ([.ref o, .int sg, .int kn, .int bg, .int pr]) (n := 5) (Nat.le_of_ble_eq_true rfl)
  rw [lg_entry_eq]
  generalize (lg_sl ([.ref o, .int sg, .int kn, .int bg, .int pr]) ++ List.replicate (5 - (lg_sl ([.ref o, .int sg, .int kn, .int bg, .int pr])).length) Slot.unset).toArray = ls at hl ⊢
  have hl : lv_has ls 5 [(0, .ref o), (1, .int sg), (2, .int kn), (3, .int bg), (4, .int pr)] := hl
  have pb0 : pB p0 0 := pb_0 hp0
  have hs9 : sB m p0 c0 t0 0 sg kn := sB_of hW.inv.2.1.1 h1
  refine lv_aload_n hx hb dL_segment_0 rfl (lv_at hl 0 rfl) ?_
  refine lv_iconst (v := 0) hx hb dL_segment_1 (by decide) ?_
  refine lv_iload_n hx hb dL_segment_2 rfl (lv_at hl 1 rfl) ?_
  refine lv_iload_n hx hb dL_segment_3 rfl (lv_at hl 2 rfl) ?_
  obtain ⟨fs9, hq9, hf9⟩ := hW.rcv
  refine px_ic hw (vx_runV (As := [.int 0, .int sg, .int kn]) (rest := []) CF ((q_segmentStart l hst g _ _ hW 0 sg kn).sure ⟨hk, pb0, hs9, trivial⟩ _) (cwV 3 hts gL_segment_X6_segmentStart rfl rfl rfl (by decide +kernel) ⟨Nat.le_of_ble_eq_true rfl, Nat.le_of_ble_eq_true rfl⟩) (pm_preV hw hs (pm_recv hw hq9 hf9 rfl)) rfl rfl hl.1 rfl (lv_room (Nat.le_of_ble_eq_true rfl)) dL_segment_4 ⟨by show _ ≤ 6; omega, by show _ ≤ 36; omega⟩) (fun E9 ce9 q9 L9 f9 H9 locs9 he9 _ _ _ _ => False.elim he9) (fun r9 La fa Ha loca hp hw9 => ?_)
  clear hw hW fs9 hq9 hf9
  have hw := hw9
  clear hw9
  obtain rfl : bg = r9 := by
    obtain ⟨d9, h8, h9⟩ := hp.1
    obtain rfl := seg_un (show segOf (rtF m 0 kn c0 t0) sg d9 from h8) h1
    exact h2.symm.trans h9.symm
  have hW : Wd g o m p0 c0 t0 n La fa := hp.2
  clear hp
  refine lv_iload_n hx hb dL_segment_7 rfl (lv_at hl 3 rfl) ?_
  refine lv_icmp_ne (tgt := 27) hx hb dL_segment_8 (by decide) (fun h9 => absurd h9 (fun q9 => q9 rfl)) (fun _ => ?_)
  refine lv_aload_n hx hb dL_segment_11 rfl (lv_at hl 0 rfl) ?_
  refine lv_iconst (v := 0) hx hb dL_segment_12 (by decide) ?_
  refine lv_iload_n hx hb dL_segment_13 rfl (lv_at hl 1 rfl) ?_
  refine lv_iload_n hx hb dL_segment_14 rfl (lv_at hl 2 rfl) ?_
  obtain ⟨fs9, hq9, hf9⟩ := hW.rcv
  refine px_ic hw (vx_runV (As := [.int 0, .int sg, .int kn]) (rest := []) CF ((q_segmentPremium l hst g _ _ hW 0 sg kn).sure ⟨hk, pb0, hs9, trivial⟩ _) (cwV 3 hts gL_segment_X6_segmentPremium rfl rfl rfl (by decide +kernel) ⟨Nat.le_of_ble_eq_true rfl, Nat.le_of_ble_eq_true rfl⟩) (pm_preV hw hs (pm_recv hw hq9 hf9 rfl)) rfl rfl hl.1 rfl (lv_room (Nat.le_of_ble_eq_true rfl)) dL_segment_15 ⟨by show _ ≤ 6; omega, by show _ ≤ 36; omega⟩) (fun E9 ce9 q9 L9 f9 H9 locs9 he9 _ _ _ _ => False.elim he9) (fun r9 Lb fb Hb locb hp hw9 => ?_)
  clear hw hW fs9 hq9 hf9
  try clear loca Ha fa La
  have hw := hw9
  clear hw9
  obtain rfl : pr = r9 := by
    obtain ⟨d9, h8, h9⟩ := hp.1
    obtain rfl := seg_un (show segOf (rtF m 0 kn c0 t0) sg d9 from h8) h1
    exact h3.symm.trans h9.symm
  have hW : Wd g o m p0 c0 t0 n Lb fb := hp.2
  clear hp
  refine lv_iload hx hb dL_segment_18 (lv_at hl 4 rfl) ?_
  refine lv_icmp_ne (tgt := 27) hx hb dL_segment_20 (by decide) (fun h9 => absurd h9 (fun q9 => q9 rfl)) (fun _ => ?_)
  refine lv_iconst (v := 1) hx hb dL_segment_23 (by decide) ?_
  refine lv_goto (tgt := 28) hx hb dL_segment_24 (by decide) ?_
  exact vx_ret (pr_i (v := 1) hx hb hr hlocks hw rfl ⟨by omega, by omega⟩ ⟨rfl, hW⟩ dL_segment_28)
theorem z_lpremium (l : Launch) (hst : l.stackTraces = false) (g : GE) (L : List Nat) (f : Nat → va_E) {o n : Nat} {S : CS} (hS : Wc g o S n L f) {x due : Int32} (k : Nat) (hk : x = nI k) {b : Nat} {R : List (Nat × Nat)} (hY : YC S 0 b k R) (hkt : k ≤ S.1) (hv : nI (smF (rOf R) 365) / 365 = due) : Ni l yL_premium wsL_premium (rmH 8 4 24) g L f [.ref o, .int x, .int due] (fun r u => r = 1 ∧ Wc g o S n u.1 u.2) 4 24 := by
  obtain ⟨m, hM, hW⟩ := hS
  subst hk
  exact (l_premium l hst g L f hW (by have := get_lt hY.2.1; omega) (nI k) due (kB_nI hM.1.1 hM.1.2.1 hkt) (pm_of (hY.yr hM) hv)).imp (fun r u h => ⟨h.1, m, hM, h.2⟩)
theorem z_lsegment (l : Launch) (hst : l.stackTraces = false) (g : GE) (L : List Nat) (f : Nat → va_E) {o n : Nat} {S : CS} (hS : Wc g o S n L f) {x y bg pr : Int32} (q k s e : Nat) (hx : x = nI q) (hk : y = nI k) {b : Nat} {R : List (Nat × Nat)} (hY : YC S 0 b k R) (hkt : k ≤ S.1) (hok : sgOK (rOf R) q s e pr) (hs : nI s = bg) : Ni l yL_segment wsL_segment (rmH 8 6 36) g L f [.ref o, .int x, .int y, .int bg, .int pr] (fun r u => r = 1 ∧ Wc g o S n u.1 u.2) 6 36 := by
  obtain ⟨m, hM, hW⟩ := hS
  subst hx hk
  obtain ⟨g1, g2, g3⟩ := sg_of (hY.yr hM) hok
  exact (l_segment l hst g L f hW (by have := get_lt hY.2.1; omega) (nI q) (nI k) bg pr s (kB_nI hM.1.1 hM.1.2.1 hkt) g1 hs g3).imp (fun r u h => ⟨h.1, m, hM, h.2⟩)
theorem z_refuses (l : Launch) (hst : l.stackTraces = false) (g : GE) (L : List Nat) (f : Nat → va_E) {o n : Nat} {S : CS} (hS : Wc g o S n L f) (hn : n ≤ 512) {x : Int32} (hx : x = nI S.2.2.2.1.length) (hp : 0 < S.2.2.2.1.length) : Ni l yL_refuses wsL_refuses (rmH 11 1400 91000) g L f [.ref o, .int x] (fun r u => r = 1 ∧ Wc g o S n u.1 u.2) 1400 91000 := by
  obtain ⟨m, hM, hW⟩ := hS
  subst hx
  exact (l_refuses l hst g L f hW hp hn).imp (fun r u h => ⟨h.1, m, hM, h.2⟩)
end ZC
