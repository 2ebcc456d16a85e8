/-! act, told by numbers -/
section RACT

theorem nm_of : ∀ {D : List (String × Prop)}, (∀ s, s ∈ D.map Prod.fst → s = IOX ∨ s = IAX ∨ s = ISX) → ∀ q, q ∈ D → q.1 = IOX ∨ q.1 = IAX ∨ q.1 = ISX := fun h q hq => h q.1 (List.mem_map.mpr ⟨q, hq, rfl⟩)
theorem nm_i {l : List String} (h : ∀ s, s ∈ l → s = IOX ∨ s = IAX ∨ s = ISX) : ∀ s, s ∈ IOX :: l → s = IOX ∨ s = IAX ∨ s = ISX := fun s hs => (List.mem_cons.mp hs).elim (fun e => Or.inl e) (h s)
theorem nm_a {l : List String} (h : ∀ s, s ∈ l → s = IOX ∨ s = IAX ∨ s = ISX) : ∀ s, s ∈ IAX :: l → s = IOX ∨ s = IAX ∨ s = ISX := fun s hs => (List.mem_cons.mp hs).elim (fun e => Or.inr (Or.inl e)) (h s)
theorem nm_s {l : List String} (h : ∀ s, s ∈ l → s = IOX ∨ s = IAX ∨ s = ISX) : ∀ s, s ∈ ISX :: l → s = IOX ∨ s = IAX ∨ s = ISX := fun s hs => (List.mem_cons.mp hs).elim (fun e => Or.inr (Or.inr e)) (h s)
theorem nm_0 : ∀ s, s ∈ ([] : List String) → s = IOX ∨ s = IAX ∨ s = ISX := fun _ h => absurd h List.not_mem_nil
theorem ra_open (l : Launch) (hst : l.stackTraces = false) (g : GE) (L : List Nat) (f : Nat → va_E) {o : Nat} {m : MS} {p0 c0 t0 n : Nat} (hW : Wd g o m p0 c0 t0 n L f) (x y z w : Int32) : Ni l yL_act wsL_act (rmH 10 8 524) g L f [.ref o, .int 0, .int x, .int y, .int z, .int w] (AnP [(IAX, 1 ≤ x.toInt ∧ x.toInt ≤ 1000), (ISX, p0 < 4)] (fun r u => r = nI p0 ∧ Wd g o (mOp m p0 x) (p0 + 1) c0 t0 (n + 1) u.1 u.2) (fun u => Wd g o m p0 c0 t0 n u.1 u.2)) 8 524 := by
  obtain ⟨fs, hq0, hf0⟩ := hW.rcv
  exact act_open l g L f hq0 hf0 x y z w (q_open l hst g L f hW x) (nm_of (nm_a (nm_s nm_0)))
theorem ra_setWeight (l : Launch) (hst : l.stackTraces = false) (g : GE) (L : List Nat) (f : Nat → va_E) {o : Nat} {m : MS} {p0 c0 t0 n : Nat} (hW : Wd g o m p0 c0 t0 n L f) (x y z w : Int32) : Ni l yL_act wsL_act (rmH 10 8 524) g L f [.ref o, .int 1, .int x, .int y, .int z, .int w] (AnP [(IOX, fldP x), (IAX, wgtP y), (IAX, dayP z), (ISX, t0 < 20)] (fun r u => r = nI (t0 + 1) ∧ Wd g o (mTr m t0 x y z) p0 c0 (t0 + 1) (n + 1) u.1 u.2) (fun u => Wd g o m p0 c0 t0 n u.1 u.2)) 8 524 := by
  obtain ⟨fs, hq0, hf0⟩ := hW.rcv
  exact act_setWeight l g L f hq0 hf0 x y z w (q_setWeight l hst g L f hW x y z) (nm_of (nm_i (nm_a (nm_a (nm_s nm_0)))))
theorem ra_pass (l : Launch) (hst : l.stackTraces = false) (g : GE) (L : List Nat) (f : Nat → va_E) {o : Nat} {m : MS} {p0 c0 t0 n : Nat} (hW : Wd g o m p0 c0 t0 n L f) (hn : n ≤ 512) (x y z w : Int32) : Ni l yL_act wsL_act (rmH 10 8 524) g L f [.ref o, .int 2, .int x, .int y, .int z, .int w] (AnP [(IAX, 1 ≤ x.toInt ∧ x.toInt ≤ 100)] (fun r u => r = m 0 1 + x ∧ Wd g o (mPs m x) p0 c0 t0 (n + 1) u.1 u.2) (fun u => Wd g o m p0 c0 t0 n u.1 u.2)) 8 524 := by
  obtain ⟨fs, hq0, hf0⟩ := hW.rcv
  exact act_pass l g L f hq0 hf0 x y z w (q_pass l hst g L f hW hn x) (nm_of (nm_a nm_0))
theorem ra_change (l : Launch) (hst : l.stackTraces = false) (g : GE) (L : List Nat) (f : Nat → va_E) {o : Nat} {m : MS} {p0 c0 t0 n : Nat} (hW : Wd g o m p0 c0 t0 n L f) (x y z w : Int32) : Ni l yL_act wsL_act (rmH 10 8 524) g L f [.ref o, .int 3, .int x, .int y, .int z, .int w] (AnP [(IOX, pB p0 x), (IOX, fldP y), (IAX, dayP z), (IAX, 0 ≤ w.toInt ∧ w.toInt ≤ 20), (ISX, c0 < 60)] (fun r u => r = nI c0 ∧ Wd g o (mTell m c0 x (nI 0) y z w) p0 (c0 + 1) t0 (n + 1) u.1 u.2) (fun u => Wd g o m p0 c0 t0 n u.1 u.2)) 8 524 := by
  obtain ⟨fs, hq0, hf0⟩ := hW.rcv
  exact act_change l g L f hq0 hf0 x y z w (q_change l hst g L f hW x y z w) (nm_of (nm_i (nm_i (nm_a (nm_a (nm_s nm_0))))))
theorem ra_add (l : Launch) (hst : l.stackTraces = false) (g : GE) (L : List Nat) (f : Nat → va_E) {o : Nat} {m : MS} {p0 c0 t0 n : Nat} (hW : Wd g o m p0 c0 t0 n L f) (x y z w : Int32) : Ni l yL_act wsL_act (rmH 10 8 524) g L f [.ref o, .int 4, .int x, .int y, .int z, .int w] (AnP [(IOX, pB p0 x), (IOX, fldP y), (IAX, dayP z), (IAX, -20 ≤ w.toInt ∧ w.toInt ≤ 20), (ISX, c0 < 60)] (fun r u => r = nI c0 ∧ Wd g o (mTell m c0 x (nI 1) y z w) p0 (c0 + 1) t0 (n + 1) u.1 u.2) (fun u => Wd g o m p0 c0 t0 n u.1 u.2)) 8 524 := by
  obtain ⟨fs, hq0, hf0⟩ := hW.rcv
  exact act_add l g L f hq0 hf0 x y z w (q_add l hst g L f hW x y z w) (nm_of (nm_i (nm_i (nm_a (nm_a (nm_s nm_0))))))
theorem ra_cancel (l : Launch) (hst : l.stackTraces = false) (g : GE) (L : List Nat) (f : Nat → va_E) {o : Nat} {m : MS} {p0 c0 t0 n : Nat} (hW : Wd g o m p0 c0 t0 n L f) (x y z w : Int32) : Ni l yL_act wsL_act (rmH 10 8 524) g L f [.ref o, .int 5, .int x, .int y, .int z, .int w] (AnP [(IOX, pB p0 x), (IAX, dayP y), (ISX, c0 < 60)] (fun r u => r = nI c0 ∧ Wd g o (mTell m c0 x (nI 2) (nI 0) y 0) p0 (c0 + 1) t0 (n + 1) u.1 u.2) (fun u => Wd g o m p0 c0 t0 n u.1 u.2)) 8 524 := by
  obtain ⟨fs, hq0, hf0⟩ := hW.rcv
  exact act_cancel l g L f hq0 hf0 x y z w (q_cancel l hst g L f hW x y) (nm_of (nm_i (nm_a (nm_s nm_0))))
theorem ra_reinstate (l : Launch) (hst : l.stackTraces = false) (g : GE) (L : List Nat) (f : Nat → va_E) {o : Nat} {m : MS} {p0 c0 t0 n : Nat} (hW : Wd g o m p0 c0 t0 n L f) (x y z w : Int32) : Ni l yL_act wsL_act (rmH 10 8 524) g L f [.ref o, .int 6, .int x, .int y, .int z, .int w] (AnP [(IOX, pB p0 x), (IAX, dayP y), (ISX, c0 < 60)] (fun r u => r = nI c0 ∧ Wd g o (mTell m c0 x (nI 3) (nI 0) y 0) p0 (c0 + 1) t0 (n + 1) u.1 u.2) (fun u => Wd g o m p0 c0 t0 n u.1 u.2)) 8 524 := by
  obtain ⟨fs, hq0, hf0⟩ := hW.rcv
  exact act_reinstate l g L f hq0 hf0 x y z w (q_reinstate l hst g L f hW x y) (nm_of (nm_i (nm_a (nm_s nm_0))))
theorem ra_takeBack (l : Launch) (hst : l.stackTraces = false) (g : GE) (L : List Nat) (f : Nat → va_E) {o : Nat} {m : MS} {p0 c0 t0 n : Nat} (hW : Wd g o m p0 c0 t0 n L f) (x y z w : Int32) : Ni l yL_act wsL_act (rmH 10 8 524) g L f [.ref o, .int 7, .int x, .int y, .int z, .int w] (AnP [(IOX, pB c0 x), (ISX, m 12 (ix x) = -1)] (fun r u => r = m 11 (ix x) ∧ Wd g o (mTk m (ix x)) p0 c0 t0 (n + 1) u.1 u.2) (fun u => Wd g o m p0 c0 t0 n u.1 u.2)) 8 524 := by
  obtain ⟨fs, hq0, hf0⟩ := hW.rcv
  exact act_takeBack l g L f hq0 hf0 x y z w (q_takeBack l hst g L f hW x) (nm_of (nm_i (nm_s nm_0)))
theorem ra_laidAnew (l : Launch) (hst : l.stackTraces = false) (g : GE) (L : List Nat) (f : Nat → va_E) {o : Nat} {m : MS} {p0 c0 t0 n : Nat} (hW : Wd g o m p0 c0 t0 n L f) (x y z w : Int32) : Ni l yL_act wsL_act (rmH 10 8 524) g L f [.ref o, .int 8, .int x, .int y, .int z, .int w] (AnP [(IOX, pB c0 x)] (fun r u => r = nI (laM m (ix x) (ix x)) ∧ Wd g o m p0 c0 t0 n u.1 u.2) (fun u => Wd g o m p0 c0 t0 n u.1 u.2)) 8 524 := by
  obtain ⟨fs, hq0, hf0⟩ := hW.rcv
  exact act_laidAnew l g L f hq0 hf0 x y z w (q_laidAnew l hst g L f hW x) (nm_of (nm_i nm_0))
theorem ra_value (l : Launch) (hst : l.stackTraces = false) (g : GE) (L : List Nat) (f : Nat → va_E) {o : Nat} {m : MS} {p0 c0 t0 n : Nat} (hW : Wd g o m p0 c0 t0 n L f) (x y z w : Int32) : Ni l yL_act wsL_act (rmH 10 8 524) g L f [.ref o, .int 9, .int x, .int y, .int z, .int w] (AnP [(IOX, pB p0 x), (IOX, fldP y), (IAX, dayP z), (IAX, kB m w)] (fun r u => r = (goM m (ix x) w c0 (ix z + 1)).1 (ix y) ∧ Wd g o m p0 c0 t0 n u.1 u.2) (fun u => Wd g o m p0 c0 t0 n u.1 u.2)) 8 524 := by
  obtain ⟨fs, hq0, hf0⟩ := hW.rcv
  exact act_value l g L f hq0 hf0 x y z w (q_value l hst g L f hW x y z w) (nm_of (nm_i (nm_i (nm_a (nm_a nm_0)))))
theorem ra_isCovered (l : Launch) (hst : l.stackTraces = false) (g : GE) (L : List Nat) (f : Nat → va_E) {o : Nat} {m : MS} {p0 c0 t0 n : Nat} (hW : Wd g o m p0 c0 t0 n L f) (x y z w : Int32) : Ni l yL_act wsL_act (rmH 10 8 524) g L f [.ref o, .int 10, .int x, .int y, .int z, .int w] (AnP [(IOX, pB p0 x), (IAX, dayP y), (IAX, kB m z)] (fun r u => r = (goM m (ix x) z c0 (ix y + 1)).2 ∧ Wd g o m p0 c0 t0 n u.1 u.2) (fun u => Wd g o m p0 c0 t0 n u.1 u.2)) 8 524 := by
  obtain ⟨fs, hq0, hf0⟩ := hW.rcv
  exact act_isCovered l g L f hq0 hf0 x y z w (q_isCovered l hst g L f hW x y z) (nm_of (nm_i (nm_a (nm_a nm_0)))) (fun v u h => by rw [h.1]; exact goM01 m _ _ _ _)
theorem ra_rate (l : Launch) (hst : l.stackTraces = false) (g : GE) (L : List Nat) (f : Nat → va_E) {o : Nat} {m : MS} {p0 c0 t0 n : Nat} (hW : Wd g o m p0 c0 t0 n L f) (x y z w : Int32) : Ni l yL_act wsL_act (rmH 10 8 524) g L f [.ref o, .int 11, .int x, .int y, .int z, .int w] (AnP [(IOX, pB p0 x), (IAX, dayP y), (IAX, kB m z)] (fun r u => r = rtF m (ix x) z c0 t0 (ix y) ∧ Wd g o m p0 c0 t0 n u.1 u.2) (fun u => Wd g o m p0 c0 t0 n u.1 u.2)) 8 524 := by
  obtain ⟨fs, hq0, hf0⟩ := hW.rcv
  exact act_rate l g L f hq0 hf0 x y z w (q_rate l hst g L f hW x y z) (nm_of (nm_i (nm_a (nm_a nm_0))))
theorem ra_segments (l : Launch) (hst : l.stackTraces = false) (g : GE) (L : List Nat) (f : Nat → va_E) {o : Nat} {m : MS} {p0 c0 t0 n : Nat} (hW : Wd g o m p0 c0 t0 n L f) (x y z w : Int32) : Ni l yL_act wsL_act (rmH 10 8 524) g L f [.ref o, .int 12, .int x, .int y, .int z, .int w] (AnP [(IOX, pB p0 x), (IAX, kB m y)] (fun r u => r = nI (csM m (ix x) y c0 t0) ∧ Wd g o m p0 c0 t0 n u.1 u.2) (fun u => Wd g o m p0 c0 t0 n u.1 u.2)) 8 524 := by
  obtain ⟨fs, hq0, hf0⟩ := hW.rcv
  exact act_segments l g L f hq0 hf0 x y z w (q_segments l hst g L f hW x y) (nm_of (nm_i (nm_a nm_0)))
theorem ra_segmentStart (l : Launch) (hst : l.stackTraces = false) (g : GE) (L : List Nat) (f : Nat → va_E) {o : Nat} {m : MS} {p0 c0 t0 n : Nat} (hW : Wd g o m p0 c0 t0 n L f) (x y z w : Int32) : Ni l yL_act wsL_act (rmH 10 8 524) g L f [.ref o, .int 13, .int x, .int y, .int z, .int w] (AnP [(IAX, kB m z), (IOX, pB p0 x), (IOX, sB m p0 c0 t0 x y z)] (fun r u => (∃ d, segOf (rtF m (ix x) z c0 t0) y d ∧ r = nI d) ∧ Wd g o m p0 c0 t0 n u.1 u.2) (fun u => Wd g o m p0 c0 t0 n u.1 u.2)) 8 524 := by
  obtain ⟨fs, hq0, hf0⟩ := hW.rcv
  exact act_segmentStart l g L f hq0 hf0 x y z w (q_segmentStart l hst g L f hW x y z) (nm_of (nm_a (nm_i (nm_i nm_0))))
theorem ra_segmentPremium (l : Launch) (hst : l.stackTraces = false) (g : GE) (L : List Nat) (f : Nat → va_E) {o : Nat} {m : MS} {p0 c0 t0 n : Nat} (hW : Wd g o m p0 c0 t0 n L f) (x y z w : Int32) : Ni l yL_act wsL_act (rmH 10 8 524) g L f [.ref o, .int 14, .int x, .int y, .int z, .int w] (AnP [(IAX, kB m z), (IOX, pB p0 x), (IOX, sB m p0 c0 t0 x y z)] (fun r u => (∃ d, segOf (rtF m (ix x) z c0 t0) y d ∧ r = SM (rtF m (ix x) z c0 t0) (endD (rtF m (ix x) z c0 t0) d) / 365 - SM (rtF m (ix x) z c0 t0) d / 365) ∧ Wd g o m p0 c0 t0 n u.1 u.2) (fun u => Wd g o m p0 c0 t0 n u.1 u.2)) 8 524 := by
  obtain ⟨fs, hq0, hf0⟩ := hW.rcv
  exact act_segmentPremium l g L f hq0 hf0 x y z w (q_segmentPremium l hst g L f hW x y z) (nm_of (nm_a (nm_i (nm_i nm_0))))
theorem ra_premium (l : Launch) (hst : l.stackTraces = false) (g : GE) (L : List Nat) (f : Nat → va_E) {o : Nat} {m : MS} {p0 c0 t0 n : Nat} (hW : Wd g o m p0 c0 t0 n L f) (x y z w : Int32) : Ni l yL_act wsL_act (rmH 10 8 524) g L f [.ref o, .int 15, .int x, .int y, .int z, .int w] (AnP [(IOX, pB p0 x), (IAX, kB m y)] (fun r u => r = pmM m (ix x) y c0 t0 ∧ Wd g o m p0 c0 t0 n u.1 u.2) (fun u => Wd g o m p0 c0 t0 n u.1 u.2)) 8 524 := by
  obtain ⟨fs, hq0, hf0⟩ := hW.rcv
  exact act_premium l g L f hq0 hf0 x y z w (q_premium l hst g L f hW x y) (nm_of (nm_i (nm_a nm_0)))
theorem ra_premiumByDays (l : Launch) (hst : l.stackTraces = false) (g : GE) (L : List Nat) (f : Nat → va_E) {o : Nat} {m : MS} {p0 c0 t0 n : Nat} (hW : Wd g o m p0 c0 t0 n L f) (x y z w : Int32) : Ni l yL_act wsL_act (rmH 10 8 524) g L f [.ref o, .int 16, .int x, .int y, .int z, .int w] (AnP [(IOX, pB p0 x), (IAX, kB m y)] (fun r u => r = pmM m (ix x) y c0 t0 ∧ Wd g o m p0 c0 t0 n u.1 u.2) (fun u => Wd g o m p0 c0 t0 n u.1 u.2)) 8 524 := by
  obtain ⟨fs, hq0, hf0⟩ := hW.rcv
  exact act_premiumByDays l g L f hq0 hf0 x y z w (q_premiumByDays l hst g L f hW x y) (nm_of (nm_i (nm_a nm_0)))
theorem ra_bill (l : Launch) (hst : l.stackTraces = false) (g : GE) (L : List Nat) (f : Nat → va_E) {o : Nat} {m : MS} {p0 c0 t0 n : Nat} (hW : Wd g o m p0 c0 t0 n L f) (x y z w : Int32) : Ni l yL_act wsL_act (rmH 10 8 524) g L f [.ref o, .int 17, .int x, .int y, .int z, .int w] (AnP [(IOX, pB p0 x)] (fun r u => r = pmM m (ix x) (m 0 1) c0 t0 - m 2 (ix x) ∧ Wd g o (mBl m (ix x) (pmM m (ix x) (m 0 1) c0 t0)) p0 c0 t0 (n + 1) u.1 u.2) (fun u => Wd g o m p0 c0 t0 n u.1 u.2)) 8 524 := by
  obtain ⟨fs, hq0, hf0⟩ := hW.rcv
  exact act_bill l g L f hq0 hf0 x y z w (q_bill l hst g L f hW x) (nm_of (nm_i nm_0))
theorem ra_billed (l : Launch) (hst : l.stackTraces = false) (g : GE) (L : List Nat) (f : Nat → va_E) {o : Nat} {m : MS} {p0 c0 t0 n : Nat} (hW : Wd g o m p0 c0 t0 n L f) (x y z w : Int32) : Ni l yL_act wsL_act (rmH 10 8 524) g L f [.ref o, .int 18, .int x, .int y, .int z, .int w] (AnP [(IOX, pB p0 x)] (fun r u => r = m 2 (ix x) ∧ Wd g o m p0 c0 t0 n u.1 u.2) (fun u => Wd g o m p0 c0 t0 n u.1 u.2)) 8 524 := by
  obtain ⟨fs, hq0, hf0⟩ := hW.rcv
  exact act_billed l g L f hq0 hf0 x y z w (q_billed l hst g L f hW x) (nm_of (nm_i nm_0))
end RACT
