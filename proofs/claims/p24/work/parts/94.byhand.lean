/-! what the law's runs by hand come to -/
section BYHAND
theorem Iv_0 (a : Nat → Nat) : Iv a k0 := ⟨⟨by decide, by decide⟩, ⟨rfl, rfl⟩, fun _ => ⟨Nat.le_refl _, Nat.zero_le _, Nat.zero_le _⟩, fun _ h => absurd h (Nat.not_lt_zero _), fun _ h => absurd h (Nat.not_lt_zero _), fun _ h => absurd h (Nat.not_lt_zero _), fun _ h => absurd h (Nat.not_lt_zero _), fun _ h => absurd h (Nat.not_lt_zero _)⟩
theorem IvL_0 : IvL k0 := fun _ h => absurd h (Nat.not_lt_zero _)
theorem Rel_0 : Rel k0 m0 0 0 := by
  refine ⟨⟨⟨rfl, rfl, rfl⟩, by decide, by decide, by decide⟩, ⟨⟨rfl, rfl, rfl⟩, by decide, by decide⟩, ⟨fun _ h => absurd h (Nat.not_lt_zero _), fun _ _ => rfl⟩, fun _ h => absurd h (Nat.not_lt_zero _), fun _ h => absurd h (Nat.not_lt_zero _), ⟨fun c d hc hd => ?_, fun _ h => absurd h (Nat.not_lt_zero _)⟩⟩
  rcases (show c = 0 ∨ c = 1 ∨ c = 2 by omega) with rfl | rfl | rfl <;> exact ⟨rfl, rfl⟩
theorem wc_new {g : GE} {a : Nat → Nat} {q : Nat} {L : List Nat} {f : Nat → va_E} (ha : a 0 = q) (hk : CW g a k0 L f) : Wc g q (0, [], [], [], []) 0 L f := ⟨m0, MT.m0, a, k0, ha, hk, Iv_0 a, IvL_0, Rel_0, rfl, rfl⟩
theorem za_noseg (l : Launch) (hst : l.stackTraces = false) (g : GE) (L : List Nat) (f : Nat → va_E) {o n : Nat} {S : CS} (hS : Wc g o S n L f) (hP : S.2.2.2.1.length = 0) (x y z w : Int32) : Ni l yL_act wsL_act (rmH 10 8 524) g L f [.ref o, .int 12, .int x, .int y, .int z, .int w] (fun r u => r = -90000001 ∧ Wc g o S n u.1 u.2) 8 524 := by
  obtain ⟨m, hM, hW⟩ := hS
  exact (ra_segments l hst g L f hW x y z w).imp (fun r u h => by
    obtain ⟨e, hW⟩ := h.f1 cE_i (by rw [hP]; intro h9; obtain ⟨h1, h2⟩ := h9; omega)
    exact ⟨e, m, hM, hW⟩)
theorem za_taken (l : Launch) (hst : l.stackTraces = false) (g : GE) (L : List Nat) (f : Nat → va_E) {o n : Nat} {S : CS} (hS : Wc g o S n L f) (j : Nat) {c : Chg} (hj : S.2.2.1[j]? = some c) (h0 : c.2.2.2.2.2.2 ≠ 0) {x : Int32} (hx : x = nI j) (y z w : Int32) : Ni l yL_act wsL_act (rmH 10 8 524) g L f [.ref o, .int 7, .int x, .int y, .int z, .int w] (fun r u => r = -90000003 ∧ Wc g o S n u.1 u.2) 8 524 := by
  obtain ⟨m, hM, hW⟩ := hS
  have hc60 := hW.inv.2.1.2.2
  subst hx
  have hl := get_lt hj
  obtain ⟨⟨-, -, a11, a12⟩, -, -, b3, b4⟩ := hM.2.2.1 j c hj
  exact (ra_takeBack l hst g L f hW (nI j) y z w).imp (fun r u h => by
    obtain ⟨e, hW⟩ := h.f2 cE_s (pB_nI hl (by omega)) (by
      rw [ix_nI (by omega), a12]
      intro h9
      have h8 : (nI c.2.2.2.2.2.2 - 1).toInt = (-1 : Int32).toInt := by rw [h9]
      have h7 : (nI c.2.2.2.2.2.2 - 1).toInt = (c.2.2.2.2.2.2 : Int) - 1 := pk_sub_toInt (a := c.2.2.2.2.2.2) (b := 1) (by omega) (by omega)
      have h6 : (-1 : Int32).toInt = -1 := by decide
      omega)
    exact ⟨e, m, hM, hW⟩)
def dS0 : CS := (0, [], [], [], [])
def dS1 : CS := (0, [], [], [365], [0])
theorem dY1_0_0 : YC dS1 0 365 0 [(365, 365)] := by decide +kernel
def dS2 : CS := (0, [], [(0, 0, 0, 100, 30, 0, 0)], [365], [0])
theorem dY2_0_0 : YC dS2 0 365 0 [(100, 365), (265, 375)] := by decide +kernel
def dS3 : CS := (0, [(0, 2, 200)], [(0, 0, 0, 100, 30, 0, 0)], [365], [0])
theorem dY3_0_0 : YC dS3 0 365 0 [(100, 365), (100, 375), (165, 385)] := by decide +kernel
def dS4 : CS := (10, [(0, 2, 200)], [(0, 0, 0, 100, 30, 0, 0)], [365], [0])
def dS5 : CS := (10, [(0, 2, 200)], [(0, 0, 0, 100, 30, 0, 0), (0, 1, 0, 50, 15, 10, 0)], [365], [0])
def dS6 : CS := (10, [(0, 2, 200)], [(0, 0, 0, 100, 30, 0, 0), (0, 1, 0, 50, 15, 10, 0), (0, 1, 0, 150, 35, 10, 0)], [365], [0])
theorem dY6_0_10 : YC dS6 0 365 10 [(100, 365), (50, 375), (50, 385), (165, 405)] := by decide +kernel
theorem dY6_0_9 : YC dS6 0 365 9 [(100, 365), (100, 375), (165, 385)] := by decide +kernel
def dS7 : CS := (15, [(0, 2, 200)], [(0, 0, 0, 100, 30, 0, 0), (0, 1, 0, 50, 15, 10, 0), (0, 1, 0, 150, 35, 10, 0)], [365], [0])
def dS8 : CS := (15, [(0, 2, 200)], [(0, 0, 0, 100, 30, 0, 16), (0, 1, 0, 50, 15, 10, 0), (0, 1, 0, 150, 35, 10, 0)], [365], [0])
theorem dY8_0_15 : YC dS8 0 365 15 [(150, 365), (50, 380), (165, 395)] := by decide +kernel
theorem dY8_0_14 : YC dS8 0 365 14 [(100, 365), (50, 375), (50, 385), (165, 405)] := by decide +kernel
theorem dY8_0_0 : YC dS8 0 365 0 [(100, 365), (100, 375), (165, 385)] := by decide +kernel
def dS9 : CS := (15, [(0, 2, 200)], [(0, 0, 0, 100, 30, 0, 16), (0, 1, 0, 50, 15, 10, 0), (0, 1, 0, 150, 35, 10, 0)], [365], [380])
theorem dY9_0_15 : YC dS9 0 365 15 [(150, 365), (50, 380), (165, 395)] := by decide +kernel
def dS10 : CS := (15, [(0, 2, 200)], [(0, 0, 0, 100, 30, 0, 16), (0, 1, 0, 50, 15, 10, 0), (0, 1, 0, 150, 35, 10, 0)], [365], [380])
def dS11 : CS := (15, [(0, 2, 200)], [(0, 0, 0, 100, 30, 0, 16), (0, 1, 0, 50, 15, 10, 0), (0, 1, 0, 150, 35, 10, 0), (0, 2, 0, 300, 20, 15, 0)], [365], [380])
theorem dY11_0_15 : YC dS11 0 365 15 [(150, 365), (50, 380), (100, 395), (65, 0)] := by decide +kernel
def dS12 : CS := (15, [(0, 2, 200)], [(0, 0, 0, 100, 30, 0, 16), (0, 1, 0, 50, 15, 10, 0), (0, 1, 0, 150, 35, 10, 0), (0, 2, 0, 300, 20, 15, 0)], [365], [310])
def dS13 : CS := (15, [(0, 2, 200)], [(0, 0, 0, 100, 30, 0, 16), (0, 1, 0, 50, 15, 10, 0), (0, 1, 0, 150, 35, 10, 0), (0, 2, 0, 300, 20, 15, 0), (0, 3, 0, 330, 20, 15, 0)], [365], [310])
theorem dY13_0_15 : YC dS13 0 365 15 [(150, 365), (50, 380), (100, 395), (30, 0), (35, 395)] := by decide +kernel
def dS14 : CS := (15, [(0, 2, 200)], [(0, 0, 0, 100, 30, 0, 16), (0, 1, 0, 50, 15, 10, 0), (0, 1, 0, 150, 35, 10, 0), (0, 2, 0, 300, 20, 15, 0), (0, 3, 0, 330, 20, 15, 0)], [365], [348])
def dS15 : CS := (15, [(0, 2, 200)], [(0, 0, 0, 100, 30, 0, 16), (0, 1, 0, 50, 15, 10, 0), (0, 1, 0, 150, 35, 10, 0), (0, 2, 0, 300, 20, 15, 0), (0, 3, 0, 330, 20, 15, 0), (0, 2, 0, 330, 20, 15, 0)], [365], [348])
theorem dY15_0_15 : YC dS15 0 365 15 [(150, 365), (50, 380), (100, 395), (65, 0)] := by decide +kernel
def dS16 : CS := (15, [(0, 2, 200)], [(0, 0, 0, 100, 30, 0, 16), (0, 1, 0, 50, 15, 10, 0), (0, 1, 0, 150, 35, 10, 0), (0, 2, 0, 300, 20, 15, 0), (0, 3, 0, 330, 20, 15, 0), (0, 2, 0, 330, 20, 15, 16)], [365], [348])
theorem dY16_0_15 : YC dS16 0 365 15 [(150, 365), (50, 380), (100, 395), (30, 0), (35, 395)] := by decide +kernel
def dS17 : CS := (15, [(0, 2, 200)], [(0, 0, 0, 100, 30, 0, 16), (0, 1, 0, 50, 15, 10, 0), (0, 1, 0, 150, 35, 10, 0), (0, 2, 0, 300, 20, 15, 0), (0, 3, 0, 330, 20, 15, 0), (0, 2, 0, 330, 20, 15, 16), (0, 0, 1, 0, 40, 15, 0)], [365], [348])
def dS18 : CS := (15, [(0, 2, 200)], [(0, 0, 0, 100, 30, 0, 16), (0, 1, 0, 50, 15, 10, 0), (0, 1, 0, 150, 35, 10, 0), (0, 2, 0, 300, 20, 15, 0), (0, 3, 0, 330, 20, 15, 0), (0, 2, 0, 330, 20, 15, 16), (0, 0, 1, 0, 40, 15, 16)], [365], [348])
def dS19 : CS := (16, [(0, 2, 200)], [(0, 0, 0, 100, 30, 0, 16), (0, 1, 0, 50, 15, 10, 0), (0, 1, 0, 150, 35, 10, 0), (0, 2, 0, 300, 20, 15, 0), (0, 3, 0, 330, 20, 15, 0), (0, 2, 0, 330, 20, 15, 16), (0, 0, 1, 0, 40, 15, 16)], [365], [348])
theorem dY19_0_16 : YC dS19 0 365 16 [(150, 365), (50, 380), (100, 395), (30, 0), (35, 395)] := by decide +kernel
def dS20 : CS := (16, [(0, 2, 200)], [(0, 0, 0, 100, 30, 0, 16), (0, 1, 0, 50, 15, 10, 0), (0, 1, 0, 150, 35, 10, 0), (0, 2, 0, 300, 20, 15, 0), (0, 3, 0, 330, 20, 15, 0), (0, 2, 0, 330, 20, 15, 16), (0, 0, 1, 0, 40, 15, 16)], [365], [348])
end BYHAND
