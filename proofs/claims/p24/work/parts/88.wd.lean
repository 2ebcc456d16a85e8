/-! the class's calls, told by numbers alone: m, how many policies, changes, tariffs there are -/
section WD
theorem pol_at {a : Nat → Nat} {k : KS} {x : Int32} {i : Nat} (hi : Iv a k) (h : i < kP k) (hx : x = nI i) : polP k x := hx ▸ pol_ok hi h
theorem pol_un {a : Nat → Nat} {k : KS} {x : Int32} {i i' : Nat} (hi : Iv a k) (h : i < kP k) (h' : i' < kP k) (hx : x = nI i) (hx' : x = nI i') : i' = i := by
  have h4 := hi.1.1
  exact ((nI_eq (by omega) (by omega)).mp (hx.symm.trans hx')).symm
theorem chg_at {a : Nat → Nat} {k : KS} {x : Int32} {i : Nat} (hi : Iv a k) (h : i < kC k) (hx : x = nI i) : chgP k x := hx ▸ chg_ok hi h
theorem chg_un {a : Nat → Nat} {k : KS} {x : Int32} {i i' : Nat} (hi : Iv a k) (h : i < kC k) (h' : i' < kC k) (hx : x = nI i) (hx' : x = nI i') : i' = i := by
  have h4 := hi.1.2
  exact ((nI_eq (by omega) (by omega)).mp (hx.symm.trans hx')).symm
theorem day_at {x : Int32} {d : Nat} (h : d < 365) (hx : x = nI d) : dayP x := by
  subst hx
  show 0 ≤ (nI d).toInt ∧ (nI d).toInt ≤ 364
  rw [nI_toInt (by omega)]
  omega
theorem day_un {x : Int32} {d d' : Nat} (h : d < 365) (h' : d' < 365) (hx : x = nI d) (hx' : x = nI d') : d' = d := ((nI_eq (by omega) (by omega)).mp (hx.symm.trans hx')).symm
theorem fld_at {x : Int32} {d : Nat} (h : d < 3) (hx : x = nI d) : fldP x := by
  subst hx
  show 0 ≤ (nI d).toInt ∧ (nI d).toInt < 3
  rw [nI_toInt (by omega)]
  omega
theorem sal_val {v : Nat → Int32} {f : Nat} (h : f < 3) : s_val v (nI f) = v f := by
  rw [s_val, if_pos (fld_at h rfl), nI_clamp (by omega)]
theorem addsub (a b : Int32) : a + (b - a) = b := by grind
theorem kSm.bill (k : KS) (i : Nat) (v : Int32) (st : VS) (rt sm : Nat → Int32) : (kScr (kW k 11 i v) st rt sm).2 = k.2 := rfl
theorem Iv.bl {a : Nat → Nat} {k k' : KS} (hk : k'.2 = k.2) (h : Iv a k) : Iv a k' := by
  obtain ⟨v, q⟩ := k
  obtain ⟨v', q'⟩ := k'
  dsimp only at hk
  subst hk
  exact h
theorem IvL.bl {k k' : KS} (hk : k'.2 = k.2) (h : IvL k) : IvL k' := by
  obtain ⟨v, q⟩ := k
  obtain ⟨v', q'⟩ := k'
  dsimp only at hk
  subst hk
  exact h
theorem isSt_c {T T' : Nat → Int32} {d : Nat} (h : ∀ j, j ≤ d → T j = T' j) : isSt T d ↔ isSt T' d := by
  unfold isSt
  rw [h d (Nat.le_refl d), h (d - 1) (by omega)]
theorem cntS_mono (T : Nat → Int32) {d : Nat} : ∀ e, cntS T d ≤ cntS T (d + e)
  | 0 => Nat.le_refl _
  | e + 1 => by
    have := cntS_mono T (d := d) e
    rw [← Nat.add_assoc, cntS]
    omega
theorem st_un {T : Nat → Int32} {d d' : Nat} (h : isSt T d) (h' : isSt T d') (he : cntS T d = cntS T d') : d = d' := by
  rcases Nat.lt_trichotomy d d' with q | q | q
  · have h1 := cntS_mono T (d := d + 1) (d' - (d + 1))
    rw [show d + 1 + (d' - (d + 1)) = d' by omega, cntS_t h] at h1
    omega
  · exact q
  · have h1 := cntS_mono T (d := d' + 1) (d - (d' + 1))
    rw [show d' + 1 + (d - (d' + 1)) = d by omega, cntS_t h'] at h1
    omega
theorem MF_imp {l : Launch} {x : MethodName} {S : Spec} {P : Array Value → State → Prop} {K : Program → Env → List Frame → State → Array Value → Prop} {Q Q' : Array Value → State → Outcome → State → Prop} (h : MetFree l x S P K Q) (hq : ∀ a s o t, Q a s o t → Q' a s o t) : MetFree l x S P K Q' := fun p e ha hc hk s m args below hf hs hP hK => by
  obtain ⟨n, o, h1, h2, h3, h4⟩ := h p e ha hc hk s m args below hf hs hP hK
  exact ⟨n, o, h1, h2, h3, hq _ _ _ _ h4⟩
theorem Xi.imp {l : Launch} {y : MethodName} {ws : List Cond} {rm : Room} {g : GE} {L : List Nat} {f : Nat → va_E} {av : List Value} {post post' : Int32 → PE → Prop} {ex ex' : String → PE → Prop} {mc ms : Nat} (h : Xi l y ws rm g L f av post ex mc ms) (h1 : ∀ r u, post r u → post' r u) (h2 : ∀ E u, ex E u → ex' E u) : Xi l y ws rm g L f av post' ex' mc ms := fun sz => MF_imp (h sz) (fun a s o t hq => by
  rcases hq with ⟨⟨⟨r, u, e1, hp, hB⟩, hF⟩, hL⟩ | ⟨q, e, E, ce, Lo, ⟨u, hu, ⟨hx, hB⟩, hF⟩, h3⟩
  · exact Or.inl ⟨⟨⟨r, u, e1, h1 r u hp, hB⟩, hF⟩, hL⟩
  · exact Or.inr ⟨q, e, E, ce, Lo, ⟨u, hu, ⟨h2 E u hx, hB⟩, hF⟩, h3⟩)
theorem Mi.imp {l : Launch} {y : MethodName} {ws : List Cond} {rm : Room} {g : GE} {L : List Nat} {f : Nat → va_E} {av : List Value} {post post' : Int32 → PE → Prop} {mc ms : Nat} (h : Mi l y ws rm g L f av post mc ms) (h1 : ∀ r u, post r u → post' r u) : Mi l y ws rm g L f av post' mc ms := fun sz => MF_imp (h sz) (fun a s o t hq => by
  obtain ⟨⟨⟨r, u, e1, hp, hB⟩, hF⟩, hL⟩ := hq
  exact ⟨⟨⟨r, u, e1, h1 r u hp, hB⟩, hF⟩, hL⟩)
abbrev IOX : String := "java/lang/IndexOutOfBoundsException"
abbrev IAX : String := "java/lang/IllegalArgumentException"
abbrev ISX : String := "java/lang/IllegalStateException"
def allD : List (String × Prop) → Prop
  | [] => True
  | x :: r => x.2 ∧ allD r
/-- sums of rates, and what follows from them -/
def SM (T : Nat → Int32) : Nat → Int32
  | 0 => 0
  | n + 1 => SM T n + T n
def rtF (m : MS) (i : Nat) (kn : Int32) (c0 t0 : Nat) : Nat → Int32 := fun d => rtM m i kn c0 t0 d
def pmM (m : MS) (i : Nat) (kn : Int32) (c0 t0 : Nat) : Int32 := SM (rtF m i kn c0 t0) 365 / 365
def csM (m : MS) (i : Nat) (kn : Int32) (c0 t0 : Nat) : Nat := cntS (rtF m i kn c0 t0) 365
abbrev ix (x : Int32) : Nat := x.toNatClampNeg
abbrev pB (p : Nat) (x : Int32) : Prop := 0 ≤ x.toInt ∧ x.toInt < (p : Nat)
abbrev kB (m : MS) (x : Int32) : Prop := 0 ≤ x.toInt ∧ x.toInt ≤ (m 0 1).toInt
abbrev sB (m : MS) (p0 c0 t0 : Nat) (x sg kn : Int32) : Prop := ∀ i, i < p0 → x = nI i → ∃ d, segOf (rtF m i kn c0 t0) sg d
abbrev mOp (m : MS) (p : Nat) (x : Int32) : MS := mS (mS (mT m 0) 1 p x) 0 0 (m 0 0 + 1)
abbrev mTr (m : MS) (t0 : Nat) (y w z : Int32) : MS := mS (mS (mS (mS (mT m 0) 3 t0 y) 4 t0 w) 5 t0 z) 0 2 (m 0 2 + 1)
abbrev mPs (m : MS) (x : Int32) : MS := mS (mT m 0) 0 1 (m 0 1 + x)
abbrev mTk (m : MS) (j : Nat) : MS := mS (mT (mT m 0) 0) 12 j (m 0 1)
abbrev mBl (m : MS) (i : Nat) (v : Int32) : MS := mS m 2 i v
/-- the object o as the numbers m have it, in the world L -/
def Wd (g : GE) (o : Nat) (m : MS) (p0 c0 t0 n : Nat) (L : List Nat) (f : Nat → va_E) : Prop :=
  ∃ (a : Nat → Nat) (k : KS), a 0 = o ∧ CW g a k L f ∧ Iv a k ∧ IvL k ∧ Rel k m t0 n ∧ kP k = p0 ∧ kC k = c0
theorem Wd.rcv {g : GE} {o : Nat} {m : MS} {p0 c0 t0 n : Nat} {L : List Nat} {f : Nat → va_E} (h : Wd g o m p0 c0 t0 n L f) : ∃ fs : List Value, o ∈ L ∧ f o = .inr (8, fs) := by
  obtain ⟨a, k, rfl, hk, -⟩ := h
  exact ⟨_, hk.q (i := 0) (dC (by decide)), hk.f (i := 0) (dC (by decide))⟩
theorem Wd.inv {g : GE} {o : Nat} {m : MS} {p0 c0 t0 n : Nat} {L : List Nat} {f : Nat → va_E} (h : Wd g o m p0 c0 t0 n L f) : (m 0 0 = nI p0 ∧ m 0 2 = nI t0 ∧ m 0 3 = nI c0) ∧ (p0 ≤ 4 ∧ t0 ≤ 20 ∧ c0 ≤ 60) ∧ 0 ≤ (m 0 1).toInt ∧ (m 0 1).toInt ≤ 100 * (n : Int) := by
  obtain ⟨a, k, rfl, hk, hi, hle, hR, rfl, rfl⟩ := h
  exact ⟨hR.1.1, hR.1.2, by rw [hR.2.1.1.1]; exact hR.2.1.2.1, by rw [hR.2.1.1.1]; exact hR.2.1.2.2⟩
theorem Wd.more {g : GE} {o : Nat} {m : MS} {p0 c0 t0 n n' : Nat} {L : List Nat} {f : Nat → va_E} (h : Wd g o m p0 c0 t0 n L f) (hn : n ≤ n') : Wd g o m p0 c0 t0 n' L f := by
  obtain ⟨a, k, h1, hk, hi, hle, hR, h2, h3⟩ := h
  exact ⟨a, k, h1, hk, hi, hle, hR.sm (kSm.rf k) (mSm.rf m) hn, h2, h3⟩
theorem Wd.cong {g : GE} {o : Nat} {m m' : MS} {p0 c0 t0 n : Nat} {L : List Nat} {f : Nat → va_E} (h : Wd g o m p0 c0 t0 n L f) (hm : mSm m m') : Wd g o m' p0 c0 t0 n L f := by
  obtain ⟨a, k, h1, hk, hi, hle, hR, h2, h3⟩ := h
  exact ⟨a, k, h1, hk, hi, hle, hR.sm (kSm.rf k) hm (Nat.le_refl n), h2, h3⟩
theorem wd_scr {g : GE} {a : Nat → Nat} {k : KS} {m : MS} {t0 n : Nat} {L : List Nat} {u : PE} (hi : Iv a k) (hle : IvL k) (hR : Rel k m t0 n) (h : ScrP g a k L u) : Wd g (a 0) m (kP k) (kC k) t0 n u.1 u.2 := by
  obtain ⟨st, rt, sm, h0, hu, hk⟩ := h
  exact ⟨a, kScr k st rt sm, rfl, by rw [hu]; exact hk, hi.sm (kSm.scr k st rt sm h0), hle.sm (kSm.scr k st rt sm h0), hR.sm (kSm.scr k st rt sm h0) (mSm.rf m) (Nat.le_refl n), rfl, rfl⟩
theorem ix_nI {i : Nat} (h : i < 2 ^ 31) : ix (nI i) = i := nI_clamp h
theorem pB_ix {p : Nat} {x : Int32} (hp : p < 2 ^ 31) (h : pB p x) : ix x < p ∧ x = nI (ix x) := by
  rcases pk_ix x (n := p) hp with q | q | ⟨i, hi, rfl⟩
  · rw [i32_lt, i32_0] at q
    omega
  · rw [i32_le, nI_toInt hp] at q
    omega
  · rw [ix_nI (by omega)]
    exact ⟨hi, rfl⟩
theorem kB_of {k : KS} {m : MS} {t0 n : Nat} {x : Int32} (hR : Rel k m t0 n) (h : knP k x) : kB m x := by
  show 0 ≤ x.toInt ∧ x.toInt ≤ (m 0 1).toInt
  rw [hR.2.1.1.1]
  exact h
theorem rt_eq {k : KS} {m : MS} {t0 n i : Nat} {kn : Int32} {rt sm : Nat → Int32} (hR : Rel k m t0 n) (hi : i < kP k) (hy : isYr k i kn rt sm) : ∀ d, d < 365 → rt d = rtF m i kn (kC k) t0 d := hR.yr hi hy
theorem pm_eq {k : KS} {m : MS} {t0 n i : Nat} {kn : Int32} {rt sm : Nat → Int32} (hR : Rel k m t0 n) (hi : i < kP k) (hy : isYr k i kn rt sm) : sumP rt sm 365 = pmM m i kn (kC k) t0 := hR.prem hi hy (S := SM (rtF m i kn (kC k) t0)) (T := rtF m i kn (kC k) t0) rfl (fun _ _ => rfl) (fun _ _ => rfl)
theorem ds_eq {k : KS} {m : MS} {t0 n i : Nat} {kn : Int32} (hR : Rel k m t0 n) (hi : i < kP k) : dSum k i kn 365 / 365 = pmM m i kn (kC k) t0 := by
  rw [hR.days hi (S := SM (rtF m i kn (kC k) t0)) (T := rtF m i kn (kC k) t0) rfl (fun _ _ => rfl) (fun _ _ => rfl)]
  rfl
theorem sm_eq {k : KS} {m : MS} {t0 n i : Nat} {kn : Int32} {rt sm : Nat → Int32} (hR : Rel k m t0 n) (hi : i < kP k) (hy : isYr k i kn rt sm) : ∀ d, d ≤ 365 → sm d = SM (rtF m i kn (kC k) t0) d := hR.sums hi hy rfl (fun _ _ => rfl) (fun _ _ => rfl)
theorem seg_c {T T' : Nat → Int32} (h : ∀ d, d < 365 → T d = T' d) (sg : Int32) (d : Nat) : segOf T sg d ↔ segOf T' sg d := by
  constructor
  · rintro ⟨h1, h2, h3⟩
    exact ⟨h1, (isSt_c (fun j hj => h j (by omega))).mp h2, by rw [← cntS_c d (fun j hj => h j (by omega))]; exact h3⟩
  · rintro ⟨h1, h2, h3⟩
    exact ⟨h1, (isSt_c (fun j hj => h j (by omega))).mpr h2, by rw [cntS_c d (fun j hj => h j (by omega))]; exact h3⟩
theorem sB_iff {a : Nat → Nat} {k : KS} {m : MS} {t0 n : Nat} {x kn sg : Int32} (hi : Iv a k) (hR : Rel k m t0 n) : segP k x kn sg ↔ sB m (kP k) (kC k) t0 x sg kn := by
  constructor
  · intro h i h1 hx
    obtain ⟨d, hd⟩ := h i _ _ h1 hx ⟨rfl, rfl⟩
    exact ⟨d, (seg_c (rt_eq hR h1 ⟨rfl, rfl⟩) sg d).mp hd⟩
  · intro h i rt sm h1 hx hy
    obtain ⟨d, hd⟩ := h i h1 hx
    exact ⟨d, (seg_c (rt_eq hR h1 hy) sg d).mpr hd⟩
theorem end_c {T T' : Nat → Int32} (h : ∀ d, d < 365 → T d = T' d) : ∀ (n j : Nat) (c : Int32), n + j ≤ 365 → endS T c n j = endS T' c n j
  | 0, _, _, _ => rfl
  | n + 1, j, c, hn => by rw [endS, endS, h j (by omega), end_c h n (j + 1) c (by omega)]
theorem endD_c {T T' : Nat → Int32} (h : ∀ d, d < 365 → T d = T' d) {d : Nat} (hd : d < 365) : endD T d = endD T' d := by
  show endS T (T d) (365 - d) d = endS T' (T' d) (365 - d) d
  rw [h d hd, end_c h _ _ _ (by omega)]
set_option maxHeartbeats 2000000 in
theorem q_today (l : Launch) (g : GE) (L : List Nat) (f : Nat → va_E) {o : Nat} {m : MS} {p0 c0 t0 n : Nat} (hW : Wd g o m p0 c0 t0 n L f) : Mi l yX6_today wsX6_today (rmH 0 0 0) g L f [.ref o] (fun r u => r = m 0 1 ∧ Wd g o m p0 c0 t0 n u.1 u.2) 0 0 := by
  obtain ⟨a, k, rfl, hk, hi, hle, hR, rfl, rfl⟩ := id hW
  have hp4 := hR.1.2.1
  have hc60 := hR.1.2.2.2
  refine (c_today l g L f a k hk).imp (fun r u h => ?_)
  obtain ⟨rfl, rfl⟩ := h
  exact ⟨hR.2.1.1.1.symm, hW⟩
set_option maxHeartbeats 2000000 in
theorem q_changes (l : Launch) (g : GE) (L : List Nat) (f : Nat → va_E) {o : Nat} {m : MS} {p0 c0 t0 n : Nat} (hW : Wd g o m p0 c0 t0 n L f) : Mi l yX6_changes wsX6_changes (rmH 1 0 0) g L f [.ref o] (fun r u => r = nI c0 ∧ Wd g o m p0 c0 t0 n u.1 u.2) 0 0 := by
  obtain ⟨a, k, rfl, hk, hi, hle, hR, rfl, rfl⟩ := id hW
  have hp4 := hR.1.2.1
  have hc60 := hR.1.2.2.2
  refine (c_changes l g L f a k hk hi).imp (fun r u h => ?_)
  obtain ⟨rfl, rfl⟩ := h
  exact ⟨rfl, hW⟩
set_option maxHeartbeats 2000000 in
theorem q_open (l : Launch) (hst : l.stackTraces = false) (g : GE) (L : List Nat) (f : Nat → va_E) {o : Nat} {m : MS} {p0 c0 t0 n : Nat} (hW : Wd g o m p0 c0 t0 n L f) (x : Int32) : Xi l yX6_open wsX6_open (rmH 8 6 300) g L f [.ref o, .int x] (fun r u => allD [(IAX, 1 ≤ x.toInt ∧ x.toInt ≤ 1000), (ISX, p0 < 4)] ∧ r = nI p0 ∧ Wd g o (mOp m p0 x) (p0 + 1) c0 t0 (n + 1) u.1 u.2) (fun E u => exL [(IAX, 1 ≤ x.toInt ∧ x.toInt ≤ 1000), (ISX, p0 < 4)] E ∧ Wd g o m p0 c0 t0 n u.1 u.2) 6 300 := by
  obtain ⟨a, k, rfl, hk, hi, hle, hR, rfl, rfl⟩ := id hW
  have hp4 := hR.1.2.1
  have hc60 := hR.1.2.2.2
  refine (c_open l hst g L f a k hk hi hle x).imp (fun r u h => ?_) (fun E u h => ?_)
  · obtain ⟨h1, h2, rfl, h5, a9, mm, c, rr, ha, hk9, hi9, hl9⟩ := h
    exact ⟨⟨h1, h2, trivial⟩, rfl, a9, _, ha, hk9, hi9, hl9, hR.opened hi h2 h1, rfl, rfl⟩
  · exact ⟨h.1, wd_scr hi hle hR h.2⟩
set_option maxHeartbeats 2000000 in
theorem q_setWeight (l : Launch) (hst : l.stackTraces = false) (g : GE) (L : List Nat) (f : Nat → va_E) {o : Nat} {m : MS} {p0 c0 t0 n : Nat} (hW : Wd g o m p0 c0 t0 n L f) (y w z : Int32) : Xi l yX6_setWeight wsX6_setWeight (rmH 2 4 24) g L f [.ref o, .int y, .int w, .int z] (fun r u => allD [(IOX, fldP y), (IAX, wgtP w), (IAX, dayP z), (ISX, t0 < 20)] ∧ r = nI (t0 + 1) ∧ Wd g o (mTr m t0 y w z) p0 c0 (t0 + 1) (n + 1) u.1 u.2) (fun E u => exL [(IOX, fldP y), (IAX, wgtP w), (IAX, dayP z), (ISX, t0 < 20)] E ∧ Wd g o m p0 c0 t0 n u.1 u.2) 4 24 := by
  obtain ⟨a, k, rfl, hk, hi, hle, hR, rfl, rfl⟩ := id hW
  have hp4 := hR.1.2.1
  have hc60 := hR.1.2.2.2
  refine (c_setWeight l hst g L f a k hk y w z).imp (fun r u h => ?_) (fun E u h => ?_)
  · obtain ⟨c, d, h1, rfl, h2, h3, rfl, h5, rfl, hu, hk9⟩ := h
    have h20 := hR.1.2.2.1
    have e0 := hR.2.1.1.2.1
    rw [e0, nI_toInt (by omega)] at h5
    exact ⟨⟨fld_at h1 rfl, h2, day_at h3 rfl, by omega, trivial⟩, by rw [e0, nI_1], a, kTel k c w d, rfl, by rw [hu]; exact hk9, hi, hle, hR.tariff (by omega) h1 h3 h2, rfl, rfl⟩
  · have h20 := hR.1.2.2.1
    have h4 : (t0 < 20) = ((k.1 0 1).toInt < 20) := propext (by rw [hR.2.1.1.2.1, nI_toInt (by omega)]; omega)
    rw [h4]
    exact ⟨h.1, wd_scr hi hle hR h.2⟩
set_option maxHeartbeats 2000000 in
theorem q_pass (l : Launch) (hst : l.stackTraces = false) (g : GE) (L : List Nat) (f : Nat → va_E) {o : Nat} {m : MS} {p0 c0 t0 n : Nat} (hW : Wd g o m p0 c0 t0 n L f) (hn : n ≤ 512) (x : Int32) : Xi l yX6_pass wsX6_pass (rmH 1 1 6) g L f [.ref o, .int x] (fun r u => allD [(IAX, 1 ≤ x.toInt ∧ x.toInt ≤ 100)] ∧ r = m 0 1 + x ∧ Wd g o (mPs m x) p0 c0 t0 (n + 1) u.1 u.2) (fun E u => exL [(IAX, 1 ≤ x.toInt ∧ x.toInt ≤ 100)] E ∧ Wd g o m p0 c0 t0 n u.1 u.2) 1 6 := by
  obtain ⟨a, k, rfl, hk, hi, hle, hR, rfl, rfl⟩ := id hW
  have hp4 := hR.1.2.1
  have hc60 := hR.1.2.2.2
  refine (c_pass l hst g L f a k hk x).imp (fun r u h => ?_) (fun E u h => ?_)
  · obtain ⟨h1, rfl, hu, hk9⟩ := h
    exact ⟨⟨h1, trivial⟩, by rw [hR.2.1.1.1], a, kW k 0 0 (k.1 0 0 + x), rfl, by rw [hu]; exact hk9, hi, hle, hR.pass hn h1, rfl, rfl⟩
  · exact ⟨h.1, wd_scr hi hle hR h.2⟩
set_option maxHeartbeats 2000000 in
theorem q_change (l : Launch) (hst : l.stackTraces = false) (g : GE) (L : List Nat) (f : Nat → va_E) {o : Nat} {m : MS} {p0 c0 t0 n : Nat} (hW : Wd g o m p0 c0 t0 n L f) (x y z w : Int32) : Xi l yX6_change wsX6_change (rmH 9 8 524) g L f [.ref o, .int x, .int y, .int z, .int w] (fun r u => allD [(IOX, pB p0 x), (IOX, fldP y), (IAX, dayP z), (IAX, 0 ≤ w.toInt ∧ w.toInt ≤ 20), (ISX, c0 < 60)] ∧ r = nI c0 ∧ Wd g o (mTell m c0 x (nI 0) y z w) p0 (c0 + 1) t0 (n + 1) u.1 u.2) (fun E u => exL [(IOX, pB p0 x), (IOX, fldP y), (IAX, dayP z), (IAX, 0 ≤ w.toInt ∧ w.toInt ≤ 20), (ISX, c0 < 60)] E ∧ Wd g o m p0 c0 t0 n u.1 u.2) 8 524 := by
  obtain ⟨a, k, rfl, hk, hi, hle, hR, rfl, rfl⟩ := id hW
  have hp4 := hR.1.2.1
  have hc60 := hR.1.2.2.2
  refine (c_change l hst g L f a k hk hi hle x y z w).imp (fun r u h => ?_) (fun E u h => ?_)
  · obtain ⟨i, h1, rfl, h2, h3, h5, h6, rfl, hs, a9, m1, m2, c1, c2, r1, r2, ha, hk9, hi9, hl9⟩ := h
    obtain ⟨d, hd, rfl⟩ := day_ix h3
    exact ⟨⟨pol_at hi h1 rfl, h2, h3, h5, h6, trivial⟩, rfl, a9, _, ha, hk9, hi9, hl9, hR.told h1 (by decide) h6 hd (fun _ => rfl) (fld_ex ((fld_iff y).mpr h2)) (fun _ => h5), rfl, rfl⟩
  · exact ⟨h.1, wd_scr hi hle hR h.2⟩
set_option maxHeartbeats 2000000 in
theorem q_add (l : Launch) (hst : l.stackTraces = false) (g : GE) (L : List Nat) (f : Nat → va_E) {o : Nat} {m : MS} {p0 c0 t0 n : Nat} (hW : Wd g o m p0 c0 t0 n L f) (x y z w : Int32) : Xi l yX6_add wsX6_add (rmH 9 8 524) g L f [.ref o, .int x, .int y, .int z, .int w] (fun r u => allD [(IOX, pB p0 x), (IOX, fldP y), (IAX, dayP z), (IAX, -20 ≤ w.toInt ∧ w.toInt ≤ 20), (ISX, c0 < 60)] ∧ r = nI c0 ∧ Wd g o (mTell m c0 x (nI 1) y z w) p0 (c0 + 1) t0 (n + 1) u.1 u.2) (fun E u => exL [(IOX, pB p0 x), (IOX, fldP y), (IAX, dayP z), (IAX, -20 ≤ w.toInt ∧ w.toInt ≤ 20), (ISX, c0 < 60)] E ∧ Wd g o m p0 c0 t0 n u.1 u.2) 8 524 := by
  obtain ⟨a, k, rfl, hk, hi, hle, hR, rfl, rfl⟩ := id hW
  have hp4 := hR.1.2.1
  have hc60 := hR.1.2.2.2
  refine (c_addF l hst g L f a k hk hi hle x y z w).imp (fun r u h => ?_) (fun E u h => ?_)
  · obtain ⟨i, h1, rfl, h2, h3, h5, h6, rfl, hs, a9, m1, m2, c1, c2, r1, r2, ha, hk9, hi9, hl9⟩ := h
    obtain ⟨d, hd, rfl⟩ := day_ix h3
    exact ⟨⟨pol_at hi h1 rfl, h2, h3, h5, h6, trivial⟩, rfl, a9, _, ha, hk9, hi9, hl9, hR.told h1 (by decide) h6 hd (fun _ => rfl) (fld_ex ((fld_iff y).mpr h2)) (fun h => absurd h (by decide)), rfl, rfl⟩
  · exact ⟨h.1, wd_scr hi hle hR h.2⟩
set_option maxHeartbeats 2000000 in
theorem q_cancel (l : Launch) (hst : l.stackTraces = false) (g : GE) (L : List Nat) (f : Nat → va_E) {o : Nat} {m : MS} {p0 c0 t0 n : Nat} (hW : Wd g o m p0 c0 t0 n L f) (x z : Int32) : Xi l yX6_cancel wsX6_cancel (rmH 9 6 512) g L f [.ref o, .int x, .int z] (fun r u => allD [(IOX, pB p0 x), (IAX, dayP z), (ISX, c0 < 60)] ∧ r = nI c0 ∧ Wd g o (mTell m c0 x (nI 2) (nI 0) z 0) p0 (c0 + 1) t0 (n + 1) u.1 u.2) (fun E u => exL [(IOX, pB p0 x), (IAX, dayP z), (ISX, c0 < 60)] E ∧ Wd g o m p0 c0 t0 n u.1 u.2) 6 512 := by
  obtain ⟨a, k, rfl, hk, hi, hle, hR, rfl, rfl⟩ := id hW
  have hp4 := hR.1.2.1
  have hc60 := hR.1.2.2.2
  refine (c_cancel l hst g L f a k hk hi hle x z).imp (fun r u h => ?_) (fun E u h => ?_)
  · obtain ⟨i, h1, rfl, h3, h6, rfl, hs, a9, m1, m2, c1, c2, r1, r2, ha, hk9, hi9, hl9⟩ := h
    obtain ⟨d, hd, rfl⟩ := day_ix h3
    exact ⟨⟨pol_at hi h1 rfl, h3, h6, trivial⟩, rfl, a9, _, ha, hk9, hi9, hl9, hR.told (kd := 2) h1 (by decide) h6 hd (fun h => absurd h (by decide)) ⟨0, by decide, rfl⟩ (fun h => absurd h (by decide)), rfl, rfl⟩
  · exact ⟨h.1, wd_scr hi hle hR h.2⟩
set_option maxHeartbeats 2000000 in
theorem q_reinstate (l : Launch) (hst : l.stackTraces = false) (g : GE) (L : List Nat) (f : Nat → va_E) {o : Nat} {m : MS} {p0 c0 t0 n : Nat} (hW : Wd g o m p0 c0 t0 n L f) (x z : Int32) : Xi l yX6_reinstate wsX6_reinstate (rmH 9 6 512) g L f [.ref o, .int x, .int z] (fun r u => allD [(IOX, pB p0 x), (IAX, dayP z), (ISX, c0 < 60)] ∧ r = nI c0 ∧ Wd g o (mTell m c0 x (nI 3) (nI 0) z 0) p0 (c0 + 1) t0 (n + 1) u.1 u.2) (fun E u => exL [(IOX, pB p0 x), (IAX, dayP z), (ISX, c0 < 60)] E ∧ Wd g o m p0 c0 t0 n u.1 u.2) 6 512 := by
  obtain ⟨a, k, rfl, hk, hi, hle, hR, rfl, rfl⟩ := id hW
  have hp4 := hR.1.2.1
  have hc60 := hR.1.2.2.2
  refine (c_reinstate l hst g L f a k hk hi hle x z).imp (fun r u h => ?_) (fun E u h => ?_)
  · obtain ⟨i, h1, rfl, h3, h6, rfl, hs, a9, m1, m2, c1, c2, r1, r2, ha, hk9, hi9, hl9⟩ := h
    obtain ⟨d, hd, rfl⟩ := day_ix h3
    exact ⟨⟨pol_at hi h1 rfl, h3, h6, trivial⟩, rfl, a9, _, ha, hk9, hi9, hl9, hR.told (kd := 3) h1 (by decide) h6 hd (fun h => absurd h (by decide)) ⟨0, by decide, rfl⟩ (fun h => absurd h (by decide)), rfl, rfl⟩
  · exact ⟨h.1, wd_scr hi hle hR h.2⟩
set_option maxHeartbeats 2000000 in
theorem q_takeBack (l : Launch) (hst : l.stackTraces = false) (g : GE) (L : List Nat) (f : Nat → va_E) {o : Nat} {m : MS} {p0 c0 t0 n : Nat} (hW : Wd g o m p0 c0 t0 n L f) (x : Int32) : Xi l yX6_takeBack wsX6_takeBack (rmH 4 2 12) g L f [.ref o, .int x] (fun r u => allD [(IOX, pB c0 x), (ISX, m 12 (ix x) = -1)] ∧ r = m 11 (ix x) ∧ Wd g o (mTk m (ix x)) p0 c0 t0 (n + 1) u.1 u.2) (fun E u => exL [(IOX, pB c0 x), (ISX, m 12 (ix x) = -1)] E ∧ Wd g o m p0 c0 t0 n u.1 u.2) 2 12 := by
  obtain ⟨a, k, rfl, hk, hi, hle, hR, rfl, rfl⟩ := id hW
  have hp4 := hR.1.2.1
  have hc60 := hR.1.2.2.2
  refine (c_takeBack l hst g L f a k hk hi x).imp (fun r u h => ?_) (fun E u h => ?_)
  · obtain ⟨j, h1, rfl, h2, rfl, hu, hk9⟩ := h
    have hc := hR.2.2.2.1 j h1
    rw [ix_nI (by omega)]
    exact ⟨⟨chg_at hi h1 rfl, hc.2.2.1.2.trans h2, trivial⟩, hc.2.2.1.1.symm, a, kW k 16 j (k.1 0 0), rfl, by rw [hu]; exact hk9, hi, hle, hR.take, rfl, rfl⟩
  · refine ⟨?_, wd_scr hi hle hR h.2⟩
    rcases h.1 with ⟨h1, h2⟩ | ⟨h1, ⟨h2, h3⟩ | ⟨h2, h3⟩⟩
    · exact Or.inl ⟨h1, h2⟩
    · refine Or.inr ⟨h1, Or.inl ⟨fun h4 => h2 (fun j hj hx => ?_), h3⟩⟩
      subst hx
      rw [ix_nI (by omega)] at h4
      exact (hR.2.2.2.1 j hj).2.2.1.2.symm.trans h4
    · exact h3.elim
set_option maxHeartbeats 2000000 in
theorem q_laidAnew (l : Launch) (hst : l.stackTraces = false) (g : GE) (L : List Nat) (f : Nat → va_E) {o : Nat} {m : MS} {p0 c0 t0 n : Nat} (hW : Wd g o m p0 c0 t0 n L f) (x : Int32) : Xi l yX6_laidAnew wsX6_laidAnew (rmH 4 1 6) g L f [.ref o, .int x] (fun r u => allD [(IOX, pB c0 x)] ∧ r = nI (laM m (ix x) (ix x)) ∧ Wd g o m p0 c0 t0 n u.1 u.2) (fun E u => exL [(IOX, pB c0 x)] E ∧ Wd g o m p0 c0 t0 n u.1 u.2) 1 6 := by
  obtain ⟨a, k, rfl, hk, hi, hle, hR, rfl, rfl⟩ := id hW
  have hp4 := hR.1.2.1
  have hc60 := hR.1.2.2.2
  refine (c_laidAnew l hst g L f a k hk hi x).imp (fun r u h => ?_) (fun E u h => ?_)
  · obtain ⟨j, h1, rfl, rfl, rfl⟩ := h
    rw [ix_nI (by omega)]
    refine ⟨⟨chg_at hi h1 rfl, trivial⟩, ?_, hW⟩
    rw [hR.2.2.2.2.1 _ (hi.2.2.2.2.2.2.2 _ h1).1, la_eq hR.2.2.2.1 h1 hR.2.1.1.1]
  · exact ⟨h.1, wd_scr hi hle hR h.2⟩
set_option maxHeartbeats 2000000 in
theorem q_value (l : Launch) (hst : l.stackTraces = false) (g : GE) (L : List Nat) (f : Nat → va_E) {o : Nat} {m : MS} {p0 c0 t0 n : Nat} (hW : Wd g o m p0 c0 t0 n L f) (x y z kn : Int32) : Xi l yX6_value wsX6_value (rmH 6 4 24) g L f [.ref o, .int x, .int y, .int z, .int kn] (fun r u => allD [(IOX, pB p0 x), (IOX, fldP y), (IAX, dayP z), (IAX, kB m kn)] ∧ r = (goM m (ix x) kn c0 (ix z + 1)).1 (ix y) ∧ Wd g o m p0 c0 t0 n u.1 u.2) (fun E u => exL [(IOX, pB p0 x), (IOX, fldP y), (IAX, dayP z), (IAX, kB m kn)] E ∧ Wd g o m p0 c0 t0 n u.1 u.2) 4 24 := by
  obtain ⟨a, k, rfl, hk, hi, hle, hR, rfl, rfl⟩ := id hW
  have hp4 := hR.1.2.1
  have hc60 := hR.1.2.2.2
  refine (c_value l hst g L f a k hk hi x y z kn).imp (fun r u h => ?_) (fun E u h => ?_)
  · obtain ⟨i, h1, rfl, h2, h3, h5, rfl, hsc⟩ := h
    obtain ⟨d, hd, rfl⟩ := day_ix h3
    rw [ix_nI (by omega), ix_nI (by omega)]
    refine ⟨⟨pol_at hi h1 rfl, h2, h3, kB_of hR h5, trivial⟩, ?_, wd_scr hi hle hR hsc⟩
    rw [s_val, if_pos h2, hR.ver h1 hd]
  · rw [show kB m kn = knP k kn from by rw [kB, hR.2.1.1.1]]
    exact ⟨h.1, wd_scr hi hle hR h.2⟩
set_option maxHeartbeats 2000000 in
theorem q_isCovered (l : Launch) (hst : l.stackTraces = false) (g : GE) (L : List Nat) (f : Nat → va_E) {o : Nat} {m : MS} {p0 c0 t0 n : Nat} (hW : Wd g o m p0 c0 t0 n L f) (x z kn : Int32) : Xi l yX6_isCovered wsX6_isCovered (rmH 6 3 18) g L f [.ref o, .int x, .int z, .int kn] (fun r u => allD [(IOX, pB p0 x), (IAX, dayP z), (IAX, kB m kn)] ∧ r = (goM m (ix x) kn c0 (ix z + 1)).2 ∧ Wd g o m p0 c0 t0 n u.1 u.2) (fun E u => exL [(IOX, pB p0 x), (IAX, dayP z), (IAX, kB m kn)] E ∧ Wd g o m p0 c0 t0 n u.1 u.2) 3 18 := by
  obtain ⟨a, k, rfl, hk, hi, hle, hR, rfl, rfl⟩ := id hW
  have hp4 := hR.1.2.1
  have hc60 := hR.1.2.2.2
  refine (c_isCovered l hst g L f a k hk hi x z kn).imp (fun r u h => ?_) (fun E u h => ?_)
  · obtain ⟨i, h1, rfl, h3, h5, rfl, hsc⟩ := h
    obtain ⟨d, hd, rfl⟩ := day_ix h3
    rw [ix_nI (by omega), ix_nI (by omega)]
    refine ⟨⟨pol_at hi h1 rfl, h3, kB_of hR h5, trivial⟩, ?_, wd_scr hi hle hR hsc⟩
    rw [hR.ver h1 hd]
  · rw [show kB m kn = knP k kn from by rw [kB, hR.2.1.1.1]]
    exact ⟨h.1, wd_scr hi hle hR h.2⟩
set_option maxHeartbeats 2000000 in
theorem q_rate (l : Launch) (hst : l.stackTraces = false) (g : GE) (L : List Nat) (f : Nat → va_E) {o : Nat} {m : MS} {p0 c0 t0 n : Nat} (hW : Wd g o m p0 c0 t0 n L f) (x z kn : Int32) : Xi l yX6_rate wsX6_rate (rmH 6 3 18) g L f [.ref o, .int x, .int z, .int kn] (fun r u => allD [(IOX, pB p0 x), (IAX, dayP z), (IAX, kB m kn)] ∧ r = rtF m (ix x) kn c0 t0 (ix z) ∧ Wd g o m p0 c0 t0 n u.1 u.2) (fun E u => exL [(IOX, pB p0 x), (IAX, dayP z), (IAX, kB m kn)] E ∧ Wd g o m p0 c0 t0 n u.1 u.2) 3 18 := by
  obtain ⟨a, k, rfl, hk, hi, hle, hR, rfl, rfl⟩ := id hW
  have hp4 := hR.1.2.1
  have hc60 := hR.1.2.2.2
  refine (c_rate l hst g L f a k hk hi x z kn).imp (fun r u h => ?_) (fun E u h => ?_)
  · obtain ⟨i, d, h1, rfl, hd, rfl, h5, rfl, hsc⟩ := h
    rw [ix_nI (by omega), ix_nI (by omega)]
    exact ⟨⟨pol_at hi h1 rfl, day_at hd rfl, kB_of hR h5, trivial⟩, hR.rate h1 hd, wd_scr hi hle hR hsc⟩
  · rw [show kB m kn = knP k kn from by rw [kB, hR.2.1.1.1]]
    exact ⟨h.1, wd_scr hi hle hR h.2⟩
set_option maxHeartbeats 2000000 in
theorem q_segments (l : Launch) (hst : l.stackTraces = false) (g : GE) (L : List Nat) (f : Nat → va_E) {o : Nat} {m : MS} {p0 c0 t0 n : Nat} (hW : Wd g o m p0 c0 t0 n L f) (x kn : Int32) : Xi l yX6_segments wsX6_segments (rmH 6 2 12) g L f [.ref o, .int x, .int kn] (fun r u => allD [(IOX, pB p0 x), (IAX, kB m kn)] ∧ r = nI (csM m (ix x) kn c0 t0) ∧ Wd g o m p0 c0 t0 n u.1 u.2) (fun E u => exL [(IOX, pB p0 x), (IAX, kB m kn)] E ∧ Wd g o m p0 c0 t0 n u.1 u.2) 2 12 := by
  obtain ⟨a, k, rfl, hk, hi, hle, hR, rfl, rfl⟩ := id hW
  have hp4 := hR.1.2.1
  have hc60 := hR.1.2.2.2
  refine (c_segments l hst g L f a k hk hi x kn).imp (fun r u h => ?_) (fun E u h => ?_)
  · obtain ⟨i, rt, sm, h1, rfl, h5, hy, rfl, hsc⟩ := h
    rw [ix_nI (by omega)]
    refine ⟨⟨pol_at hi h1 rfl, kB_of hR h5, trivial⟩, ?_, wd_scr hi hle hR hsc⟩
    rw [cntS_c 365 (rt_eq hR h1 hy), csM]
  · rw [show kB m kn = knP k kn from by rw [kB, hR.2.1.1.1]]
    exact ⟨h.1, wd_scr hi hle hR h.2⟩
set_option maxHeartbeats 2000000 in
theorem q_segmentStart (l : Launch) (hst : l.stackTraces = false) (g : GE) (L : List Nat) (f : Nat → va_E) {o : Nat} {m : MS} {p0 c0 t0 n : Nat} (hW : Wd g o m p0 c0 t0 n L f) (x sg kn : Int32) : Xi l yX6_segmentStart wsX6_segmentStart (rmH 7 3 18) g L f [.ref o, .int x, .int sg, .int kn] (fun r u => allD [(IAX, kB m kn), (IOX, pB p0 x), (IOX, sB m p0 c0 t0 x sg kn)] ∧ (∃ d, segOf (rtF m (ix x) kn c0 t0) sg d ∧ r = nI d) ∧ Wd g o m p0 c0 t0 n u.1 u.2) (fun E u => exL [(IAX, kB m kn), (IOX, pB p0 x), (IOX, sB m p0 c0 t0 x sg kn)] E ∧ Wd g o m p0 c0 t0 n u.1 u.2) 3 18 := by
  obtain ⟨a, k, rfl, hk, hi, hle, hR, rfl, rfl⟩ := id hW
  have hp4 := hR.1.2.1
  have hc60 := hR.1.2.2.2
  refine (c_segmentStart l hst g L f a k hk hi x sg kn).imp (fun r u h => ?_) (fun E u h => ?_)
  · obtain ⟨i, d, rt, sm, h1, rfl, h5, hy, hd, rfl, hsc⟩ := h
    rw [ix_nI (by omega)]
    replace hd := (seg_c (rt_eq hR h1 hy) sg d).mp hd
    exact ⟨⟨kB_of hR h5, pol_at hi h1 rfl, fun i2 h8 h9 => ⟨d, by have e9 := pol_un hi h1 h8 rfl h9; subst e9; exact hd⟩, trivial⟩, ⟨d, hd, rfl⟩, wd_scr hi hle hR hsc⟩
  · rw [show kB m kn = knP k kn from by rw [kB, hR.2.1.1.1], show sB m (kP k) (kC k) t0 x sg kn = segP k x kn sg from propext (sB_iff hi hR).symm]
    exact ⟨h.1, wd_scr hi hle hR h.2⟩
set_option maxHeartbeats 2000000 in
theorem q_segmentPremium (l : Launch) (hst : l.stackTraces = false) (g : GE) (L : List Nat) (f : Nat → va_E) {o : Nat} {m : MS} {p0 c0 t0 n : Nat} (hW : Wd g o m p0 c0 t0 n L f) (x sg kn : Int32) : Xi l yX6_segmentPremium wsX6_segmentPremium (rmH 7 3 18) g L f [.ref o, .int x, .int sg, .int kn] (fun r u => allD [(IAX, kB m kn), (IOX, pB p0 x), (IOX, sB m p0 c0 t0 x sg kn)] ∧ (∃ d, segOf (rtF m (ix x) kn c0 t0) sg d ∧ r = SM (rtF m (ix x) kn c0 t0) (endD (rtF m (ix x) kn c0 t0) d) / 365 - SM (rtF m (ix x) kn c0 t0) d / 365) ∧ Wd g o m p0 c0 t0 n u.1 u.2) (fun E u => exL [(IAX, kB m kn), (IOX, pB p0 x), (IOX, sB m p0 c0 t0 x sg kn)] E ∧ Wd g o m p0 c0 t0 n u.1 u.2) 3 18 := by
  obtain ⟨a, k, rfl, hk, hi, hle, hR, rfl, rfl⟩ := id hW
  have hp4 := hR.1.2.1
  have hc60 := hR.1.2.2.2
  refine (c_segmentPremium l hst g L f a k hk hi x sg kn).imp (fun r u h => ?_) (fun E u h => ?_)
  · obtain ⟨i, d, rt, sm, h1, rfl, h5, hy, hd, rfl, hsc⟩ := h
    rw [ix_nI (by omega)]
    have hd3 := hd.1
    replace hd := (seg_c (rt_eq hR h1 hy) sg d).mp hd
    refine ⟨⟨kB_of hR h5, pol_at hi h1 rfl, fun i2 h8 h9 => ⟨d, by have e9 := pol_un hi h1 h8 rfl h9; subst e9; exact hd⟩, trivial⟩, ⟨d, hd, ?_⟩, wd_scr hi hle hR hsc⟩
    rw [endD_c (rt_eq hR h1 hy) hd3, sm_eq hR h1 hy _ (endD_le _ (by omega)), sm_eq hR h1 hy _ (by omega)]
  · rw [show kB m kn = knP k kn from by rw [kB, hR.2.1.1.1], show sB m (kP k) (kC k) t0 x sg kn = segP k x kn sg from propext (sB_iff hi hR).symm]
    exact ⟨h.1, wd_scr hi hle hR h.2⟩
set_option maxHeartbeats 2000000 in
theorem q_premium (l : Launch) (hst : l.stackTraces = false) (g : GE) (L : List Nat) (f : Nat → va_E) {o : Nat} {m : MS} {p0 c0 t0 n : Nat} (hW : Wd g o m p0 c0 t0 n L f) (x kn : Int32) : Xi l yX6_premium wsX6_premium (rmH 7 2 12) g L f [.ref o, .int x, .int kn] (fun r u => allD [(IOX, pB p0 x), (IAX, kB m kn)] ∧ r = pmM m (ix x) kn c0 t0 ∧ Wd g o m p0 c0 t0 n u.1 u.2) (fun E u => exL [(IOX, pB p0 x), (IAX, kB m kn)] E ∧ Wd g o m p0 c0 t0 n u.1 u.2) 2 12 := by
  obtain ⟨a, k, rfl, hk, hi, hle, hR, rfl, rfl⟩ := id hW
  have hp4 := hR.1.2.1
  have hc60 := hR.1.2.2.2
  refine (c_premium l hst g L f a k hk hi x kn).imp (fun r u h => ?_) (fun E u h => ?_)
  · obtain ⟨i, rt, sm, h1, rfl, h5, hy, rfl, hsc⟩ := h
    rw [ix_nI (by omega)]
    exact ⟨⟨pol_at hi h1 rfl, kB_of hR h5, trivial⟩, pm_eq hR h1 hy, wd_scr hi hle hR hsc⟩
  · rw [show kB m kn = knP k kn from by rw [kB, hR.2.1.1.1]]
    exact ⟨h.1, wd_scr hi hle hR h.2⟩
set_option maxHeartbeats 2000000 in
theorem q_premiumByDays (l : Launch) (hst : l.stackTraces = false) (g : GE) (L : List Nat) (f : Nat → va_E) {o : Nat} {m : MS} {p0 c0 t0 n : Nat} (hW : Wd g o m p0 c0 t0 n L f) (x kn : Int32) : Xi l yX6_premiumByDays wsX6_premiumByDays (rmH 6 2 12) g L f [.ref o, .int x, .int kn] (fun r u => allD [(IOX, pB p0 x), (IAX, kB m kn)] ∧ r = pmM m (ix x) kn c0 t0 ∧ Wd g o m p0 c0 t0 n u.1 u.2) (fun E u => exL [(IOX, pB p0 x), (IAX, kB m kn)] E ∧ Wd g o m p0 c0 t0 n u.1 u.2) 2 12 := by
  obtain ⟨a, k, rfl, hk, hi, hle, hR, rfl, rfl⟩ := id hW
  have hp4 := hR.1.2.1
  have hc60 := hR.1.2.2.2
  refine (c_premiumByDays l hst g L f a k hk hi x kn).imp (fun r u h => ?_) (fun E u h => ?_)
  · obtain ⟨i, h1, rfl, h5, rfl, hsc⟩ := h
    rw [ix_nI (by omega)]
    exact ⟨⟨pol_at hi h1 rfl, kB_of hR h5, trivial⟩, ds_eq hR h1, wd_scr hi hle hR hsc⟩
  · rw [show kB m kn = knP k kn from by rw [kB, hR.2.1.1.1]]
    exact ⟨h.1, wd_scr hi hle hR h.2⟩
set_option maxHeartbeats 2000000 in
theorem q_bill (l : Launch) (hst : l.stackTraces = false) (g : GE) (L : List Nat) (f : Nat → va_E) {o : Nat} {m : MS} {p0 c0 t0 n : Nat} (hW : Wd g o m p0 c0 t0 n L f) (x : Int32) : Xi l yX6_bill wsX6_bill (rmH 7 1 6) g L f [.ref o, .int x] (fun r u => allD [(IOX, pB p0 x)] ∧ r = pmM m (ix x) (m 0 1) c0 t0 - m 2 (ix x) ∧ Wd g o (mBl m (ix x) (pmM m (ix x) (m 0 1) c0 t0)) p0 c0 t0 (n + 1) u.1 u.2) (fun E u => exL [(IOX, pB p0 x)] E ∧ Wd g o m p0 c0 t0 n u.1 u.2) 1 6 := by
  obtain ⟨a, k, rfl, hk, hi, hle, hR, rfl, rfl⟩ := id hW
  have hp4 := hR.1.2.1
  have hc60 := hR.1.2.2.2
  refine (c_bill l hst g L f a k hk hi x).imp (fun r u h => ?_) (fun E u h => ?_)
  · obtain ⟨i, rt, sm, h1, rfl, hy, rfl, hsc⟩ := h
    rw [ix_nI (by omega)]
    rw [← hR.2.1.1.1] at hy
    rw [pm_eq hR h1 hy, addsub] at hsc
    refine ⟨⟨pol_at hi h1 rfl, trivial⟩, by rw [pm_eq hR h1 hy, (hR.2.2.1.1 _ h1).1.2], ?_⟩
    exact wd_scr (k := kW k 11 i (pmM m i (m 0 1) (kC k) t0)) (hi.bl rfl) (hle.bl rfl) (hR.bill h1 (mSm.rf m)) hsc
  · exact ⟨h.1, wd_scr hi hle hR h.2⟩
set_option maxHeartbeats 2000000 in
theorem q_billed (l : Launch) (hst : l.stackTraces = false) (g : GE) (L : List Nat) (f : Nat → va_E) {o : Nat} {m : MS} {p0 c0 t0 n : Nat} (hW : Wd g o m p0 c0 t0 n L f) (x : Int32) : Xi l yX6_billed wsX6_billed (rmH 4 1 6) g L f [.ref o, .int x] (fun r u => allD [(IOX, pB p0 x)] ∧ r = m 2 (ix x) ∧ Wd g o m p0 c0 t0 n u.1 u.2) (fun E u => exL [(IOX, pB p0 x)] E ∧ Wd g o m p0 c0 t0 n u.1 u.2) 1 6 := by
  obtain ⟨a, k, rfl, hk, hi, hle, hR, rfl, rfl⟩ := id hW
  have hp4 := hR.1.2.1
  have hc60 := hR.1.2.2.2
  refine (c_billed l hst g L f a k hk hi x).imp (fun r u h => ?_) (fun E u h => ?_)
  · obtain ⟨i, h1, rfl, rfl, hsc⟩ := h
    rw [ix_nI (by omega)]
    exact ⟨⟨pol_at hi h1 rfl, trivial⟩, (hR.2.2.1.1 _ h1).1.2, wd_scr hi hle hR hsc⟩
  · exact ⟨h.1, wd_scr hi hle hR h.2⟩
end WD
