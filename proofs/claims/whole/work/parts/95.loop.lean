/-! the law's loop, and its start -/
section LAWL
theorem nI_5 {L : Nat} (h : L ≤ 2560) : (nI L - 5).toInt = (L : Int) - 5 := by
  rcases Nat.lt_or_ge L 5 with h5 | h5
  · rcases (show L = 0 ∨ L = 1 ∨ L = 2 ∨ L = 3 ∨ L = 4 by omega) with rfl | rfl | rfl | rfl | rfl <;> rfl
  · have e : nI L - 5 = nI (L - 5) := pk_sub (b := 5) h5
    rw [e, nI_toInt (by omega)]
    omega
theorem Iv_0 (a : Nat → Nat) : Iv a k0 := ⟨⟨by decide, by decide⟩, ⟨rfl, rfl⟩, fun _ => ⟨Nat.le_refl _, Nat.zero_le _, Nat.zero_le _⟩, fun _ h => absurd h (Nat.not_lt_zero _), fun _ h => absurd h (Nat.not_lt_zero _), fun _ h => absurd h (Nat.not_lt_zero _), fun _ h => absurd h (Nat.not_lt_zero _), fun _ h => absurd h (Nat.not_lt_zero _)⟩
theorem IvL_0 : IvL k0 := fun _ h => absurd h (Nat.not_lt_zero _)
theorem Rel_0 : Rel k0 m0 0 0 := by
  refine ⟨⟨⟨rfl, rfl, rfl⟩, by decide, by decide, by decide⟩, ⟨⟨rfl, rfl, rfl⟩, by decide, by decide⟩, ⟨fun _ h => absurd h (Nat.not_lt_zero _), fun _ _ => rfl⟩, fun _ h => absurd h (Nat.not_lt_zero _), fun _ h => absurd h (Nat.not_lt_zero _), ⟨fun c d hc hd => ?_, fun _ h => absurd h (Nat.not_lt_zero _)⟩⟩
  rcases (show c = 0 ∨ c = 1 ∨ c = 2 by omega) with rfl | rfl | rfl <;> exact ⟨rfl, rfl⟩

set_option maxHeartbeats 4000000 in
set_option maxRecDepth 100000 in
theorem law_head {p : Program} {e : Env} {s : State} {m : MethodId} {below : List Frame} {meth : Method} {c : Code} {l : Launch} {b L : Nat} {xs : Nat → Int32} {g : GE} {n : Nat} {H : Heap} {locs : List Loc} {ls : Array Slot} (hst : l.stackTraces = false) (hL : L ≤ 2560) (C0 : lw_At p s m meth c b L xs) (hs : Sx g (lwA s) s s.heap) (hN : NcU s) (hn : 5 * n ≤ L) (I : LawI g s b n H locs ls) (ih0 : 5 * n + 5 ≤ L → ∀ (H1 : Heap) (locs1 : List Loc) (ls1 : Array Slot), LawI g s b (n + 1) H1 locs1 ls1 → W p l e room_1 s m #[Value.ref b] below meth c H1 locs1 (39 + 8 * (n + 1)) (5828 + 524 * (n + 1)) (lw_Z below #[Value.ref b] s) (F0 m 23 ls1 [])) : W p l e room_1 s m #[Value.ref b] below meth c H locs (39 + 8 * n) (5828 + 524 * n) (lw_Z below #[Value.ref b] s) (F0 m 23 ls []) := by
  obtain ⟨hx, hb, hr, hml, hown0, hts0, hX, hbl, hlocks, hgv⟩ := id C0
  obtain ⟨a, am, k, mm, t0, o, Lc, Lm, f, ro, hw, ⟨hk, hi, hle⟩, hm, hR, hfo, hl⟩ := id I
  have hbA : ¬ lwA s b := Nat.not_le.mpr hbl
  refine lv_iload hx hb dL_law_23 (lv_at hl 4 rfl) ?_
  refine lv_aload_n hx hb dL_law_25 rfl (lv_at hl 0 rfl) ?_
  refine va_slen hx hb hX hbl hbA hw.2.2.2.1 dL_law_26 ?_
  refine lv_iconst (v := 5) hx hb dL_law_27 (by decide) ?_
  refine lv_isub hx hb dL_law_28 ?_
  have h5 : (Int32.ofNat L - 5).toInt = (L : Int) - 5 := nI_5 hL
  refine lv_icmp_gt (tgt := 1527) hx hb dL_law_29 (by decide) (fun c_29 => ?_) (fun c_29 => ?_)
  · refine lv_iconst (v := 1) hx hb dL_law_1527 (by decide) ?_
    refine va_forget (fun q hq => hw.2.2.2.1.2.2 q hq) ?_
    refine W.widen (k := 601024) (n := 7293034) (by omega) (by omega) ?_
    exact lw_ret hx hb hr hlocks dL_law_1528
  have hn5 : 5 * n + 5 ≤ L := by
    rw [i32_lt, h5, nI_toInt (by omega)] at c_29
    omega
  have ih := ih0 hn5
  refine lv_aload_n hx hb dL_law_32 rfl (lv_at hl 0 rfl) ?_
  refine lv_iload hx hb dL_law_33 (lv_at hl 4 rfl) ?_
  refine lw_sld hx hb hX hbl hbA hw hL (q := 5 * n) rfl (by omega) dL_law_35 ?_
  refine lv_bipush (v := 31) hx hb dL_law_36 (by decide) ?_
  refine lv_iand hx hb dL_law_38 ?_
  refine lv_topi (fun z _ => ?_)
  rcases Classical.em (z.toInt < 0 ∨ 20 < z.toInt) with h | h
  · refine lv_tableOut (tgt := 1521) hx hb dL_law_39 h (by decide) ?_
    refine W.widen (k := 39 + 8 * (n + 1)) (n := 5828 + 524 * (n + 1)) (by omega) (by omega) ?_
    refine lv_iinc (v := nI (5 * (n + 1))) (lv' := [(4, .int (nI (5 * (n + 1)))), (0, .ref b), (1, .ref (a 0)), (2, .ref (am 0)), (3, .ref o)]) hx hb dL_law_1521 hl (k := 4) rfl (nI_add (5 * n) 5) (by decide) rfl (fun ls hl => ?_)
    refine lv_goto (tgt := 23) hx hb dL_law_1524 (by decide) ?_
    exact ih _ _ _ ⟨a, am, k, mm, t0, o, Lc, Lm, f, ro, hw, ⟨hk, hi, hle⟩, hm, hR.more, hfo, lv_sub hl [1, 2, 3, 4, 0] rfl⟩
  obtain ⟨i, hi9, hz⟩ : ∃ i : Nat, i ≤ 20 ∧ z.toInt = (i : Int) := ⟨z.toInt.toNat, by omega, by omega⟩
  match i, hi9, hz with
  | 0, _, hz => exact lv_tableIn (off := 97) (tgt := 136) hx hb dL_law_39 (by rw [hz]; decide) (by rw [hz]; decide) (by rw [hz]; rfl) (by decide) (law_open hst hL C0 hs hN hn5 I ih)
  | 1, _, hz => exact lv_tableIn (off := 153) (tgt := 192) hx hb dL_law_39 (by rw [hz]; decide) (by rw [hz]; decide) (by rw [hz]; rfl) (by decide) (law_setWeight hst hL C0 hs hN hn5 I ih)
  | 2, _, hz => exact lv_tableIn (off := 233) (tgt := 272) hx hb dL_law_39 (by rw [hz]; decide) (by rw [hz]; decide) (by rw [hz]; rfl) (by decide) (law_pass hst hL C0 hs hN hn5 I ih)
  | 3, _, hz => exact lv_tableIn (off := 289) (tgt := 328) hx hb dL_law_39 (by rw [hz]; decide) (by rw [hz]; decide) (by rw [hz]; rfl) (by decide) (law_today hst hL C0 hs hN hn5 I ih)
  | 4, _, hz => exact lv_tableIn (off := 302) (tgt := 341) hx hb dL_law_39 (by rw [hz]; decide) (by rw [hz]; decide) (by rw [hz]; rfl) (by decide) (law_change hst hL C0 hs hN hn5 I ih)
  | 5, _, hz => exact lv_tableIn (off := 394) (tgt := 433) hx hb dL_law_39 (by rw [hz]; decide) (by rw [hz]; decide) (by rw [hz]; rfl) (by decide) (law_add hst hL C0 hs hN hn5 I ih)
  | 6, _, hz => exact lv_tableIn (off := 486) (tgt := 525) hx hb dL_law_39 (by rw [hz]; decide) (by rw [hz]; decide) (by rw [hz]; rfl) (by decide) (law_cancel hst hL C0 hs hN hn5 I ih)
  | 7, _, hz => exact lv_tableIn (off := 554) (tgt := 593) hx hb dL_law_39 (by rw [hz]; decide) (by rw [hz]; decide) (by rw [hz]; rfl) (by decide) (law_reinstate hst hL C0 hs hN hn5 I ih)
  | 8, _, hz => exact lv_tableIn (off := 622) (tgt := 661) hx hb dL_law_39 (by rw [hz]; decide) (by rw [hz]; decide) (by rw [hz]; rfl) (by decide) (law_takeBack hst hL C0 hs hN hn5 I ih)
  | 9, _, hz => exact lv_tableIn (off := 678) (tgt := 717) hx hb dL_law_39 (by rw [hz]; decide) (by rw [hz]; decide) (by rw [hz]; rfl) (by decide) (law_changes hst hL C0 hs hN hn5 I ih)
  | 10, _, hz => exact lv_tableIn (off := 691) (tgt := 730) hx hb dL_law_39 (by rw [hz]; decide) (by rw [hz]; decide) (by rw [hz]; rfl) (by decide) (law_laidAnew hst hL C0 hs hN hn5 I ih)
  | 11, _, hz => exact lv_tableIn (off := 747) (tgt := 786) hx hb dL_law_39 (by rw [hz]; decide) (by rw [hz]; decide) (by rw [hz]; rfl) (by decide) (law_value hst hL C0 hs hN hn5 I ih)
  | 12, _, hz => exact lv_tableIn (off := 839) (tgt := 878) hx hb dL_law_39 (by rw [hz]; decide) (by rw [hz]; decide) (by rw [hz]; rfl) (by decide) (law_isCovered hst hL C0 hs hN hn5 I ih)
  | 13, _, hz => exact lv_tableIn (off := 926) (tgt := 965) hx hb dL_law_39 (by rw [hz]; decide) (by rw [hz]; decide) (by rw [hz]; rfl) (by decide) (law_rate hst hL C0 hs hN hn5 I ih)
  | 14, _, hz => exact lv_tableIn (off := 1006) (tgt := 1045) hx hb dL_law_39 (by rw [hz]; decide) (by rw [hz]; decide) (by rw [hz]; rfl) (by decide) (law_segments hst hL C0 hs hN hn5 I ih)
  | 15, _, hz => exact lv_tableIn (off := 1074) (tgt := 1113) hx hb dL_law_39 (by rw [hz]; decide) (by rw [hz]; decide) (by rw [hz]; rfl) (by decide) (law_segmentStart hst hL C0 hs hN hn5 I ih)
  | 16, _, hz => exact lv_tableIn (off := 1154) (tgt := 1193) hx hb dL_law_39 (by rw [hz]; decide) (by rw [hz]; decide) (by rw [hz]; rfl) (by decide) (law_segmentPremium hst hL C0 hs hN hn5 I ih)
  | 17, _, hz => exact lv_tableIn (off := 1234) (tgt := 1273) hx hb dL_law_39 (by rw [hz]; decide) (by rw [hz]; decide) (by rw [hz]; rfl) (by decide) (law_premium hst hL C0 hs hN hn5 I ih)
  | 18, _, hz => exact lv_tableIn (off := 1302) (tgt := 1341) hx hb dL_law_39 (by rw [hz]; decide) (by rw [hz]; decide) (by rw [hz]; rfl) (by decide) (law_premiumByDays hst hL C0 hs hN hn5 I ih)
  | 19, _, hz => exact lv_tableIn (off := 1370) (tgt := 1409) hx hb dL_law_39 (by rw [hz]; decide) (by rw [hz]; decide) (by rw [hz]; rfl) (by decide) (law_bill hst hL C0 hs hN hn5 I ih)
  | 20, _, hz => exact lv_tableIn (off := 1426) (tgt := 1465) hx hb dL_law_39 (by rw [hz]; decide) (by rw [hz]; decide) (by rw [hz]; rfl) (by decide) (law_billed hst hL C0 hs hN hn5 I ih)
  | i + 21, h21, _ => exact absurd h21 (by omega)
set_option maxHeartbeats 4000000 in
set_option maxRecDepth 100000 in
theorem law_loop {p : Program} {e : Env} {s : State} {m : MethodId} {below : List Frame} {meth : Method} {c : Code} {l : Launch} {b L : Nat} {xs : Nat → Int32} {g : GE} (hst : l.stackTraces = false) (hL : L ≤ 2560) (C0 : lw_At p s m meth c b L xs) (hs : Sx g (lwA s) s s.heap) (hN : NcU s) : ∀ (q n : Nat), 5 * n ≤ L → L + 5 ≤ 5 * n + 5 * q → ∀ (H : Heap) (locs : List Loc) (ls : Array Slot), LawI g s b n H locs ls → W p l e room_1 s m #[Value.ref b] below meth c H locs (39 + 8 * n) (5828 + 524 * n) (lw_Z below #[Value.ref b] s) (F0 m 23 ls [])
  | 0, n, h1, h2, _, _, _, _ => absurd h2 (by omega)
  | q + 1, n, h1, h2, H, locs, ls, I => by
    exact law_head hst hL C0 hs hN h1 I (fun h H1 locs1 ls1 I1 => law_loop hst hL C0 hs hN q (n + 1) (by omega) (by omega) H1 locs1 ls1 I1)
end LAWL
