/-! the law's chip, 2 -/
section CH2
variable {l : Launch} {D : va_G} {ad : Nat → Nat} {tc : Nat → ClassId} {L : Nat} {xs : Nat → Int32} {S : jS} {E : List j_C} {s sF k : Nat} {x K : Int32}
theorem ch_497 (hK : ∀ S E, CI S (k + 1) 0 1 3 → RWs S E (k + 1) → E.length = 2 * k + 3 → kd S 0 ≠ 8 → Gc l D ad tc L xs sF 147 [(6, .int (nI (k + 1))), (5, .ref 85), (4, .int (nI 7)), (3, .int (nI 11)), (2, .int (nI 3)), (1, .ref 0), (0, .ref 1)] [] (wd S E, s)) (hk : k < 11) (h : CI S (k + 1) 0 1 3) (hR : RWs S E (k + 1)) (hE : E.length = 2 * k + 3) (h8 : kd S 0 ≠ 8) : Gc l D ad tc L xs sF 497 [(9, .int K), (10, .ref (2 * k + 2 + 84 + 1)), (7, .int x), (6, .int (nI k)), (5, .ref 85), (4, .int (nI 7)), (3, .int (nI 11)), (2, .int (nI 3)), (1, .ref 0), (0, .ref 1)] [] (wd S E, s) := by
  refine Gc.of (fun r h' z => ?_) (hK S E h hR hE h8)
  refine rn_iinc dL_chip_497 rfl (nI_1 _) (by decide) rfl ?_
  refine rn_goto (tgt := 147) dL_chip_500 rfl ?_
  exact rn_subg rfl z
theorem ch_474 (hK : ∀ S E, CI S (k + 1) 0 1 3 → RWs S E (k + 1) → E.length = 2 * k + 3 → kd S 0 ≠ 8 → Gc l D ad tc L xs sF 147 [(6, .int (nI (k + 1))), (5, .ref 85), (4, .int (nI 7)), (3, .int (nI 11)), (2, .int (nI 3)), (1, .ref 0), (0, .ref 1)] [] (wd S E, s)) (hk : k < 11) (h : CI S (k + 1) 0 1 3) (hR : RWs S E (k + 1)) (hE : E.length = 2 * k + 3) (h8 : kd S 0 ≠ 8) (hkd : kd S k = 6 ∨ kd S k = 7) : Gc l D ad tc L xs sF 474 [(9, .int K), (10, .ref (2 * k + 2 + 84 + 1)), (7, .int x), (6, .int (nI k)), (5, .ref 85), (4, .int (nI 7)), (3, .int (nI 11)), (2, .int (nI 3)), (1, .ref 0), (0, .ref 1)] [] (wd S E, s) := by
  obtain ⟨f, e1, e2, e3⟩ := hR.2 k (by omega)
  obtain ⟨S1, v1, c1, c2, c3⟩ := k_skew (l := l) (D := D) (ad := ad) (tc := tc) (L := L) (xs := xs) (sl := s) (E := E.set (2 * k + 2) (rwC (upd f 6 (nI (bel (x >>> (8 &&& 31)) 21))))) (w := bel (x >>> (8 &&& 31)) 21) h (i := k) (by omega) hkd (by have := bel_lt (v := x >>> (8 &&& 31)) (n := 21) (by decide); omega)
  refine Gc.of (fun r h' z => ?_) (ch_497 (x := x) (K := K) hK hk c1 (RWs_KS (RWs_set (f' := upd f 6 (nI (bel (x >>> (8 &&& 31)) 21))) hR (by omega) e1 rfl rfl) c2 (by omega)) (by rw [List.length_set]; exact hE) (by rw [(c2 0 (by omega)).1]; exact h8))
  refine rn_aload_n dL_chip_474 rfl ?_
  refine rn_iload dL_chip_475 rfl ?_
  refine rn_aload dL_chip_477 rfl ?_
  refine rn_bipush (v := nI 6) dL_chip_479 (by decide) ?_
  refine rn_iload dL_chip_481 rfl ?_
  refine rn_bipush (v := 8) dL_chip_483 rfl ?_
  refine rn_ishr dL_chip_485 ?_
  refine rn_bipush (v := nI 21) dL_chip_486 (by decide) ?_
  refine rn_callS dL_chip_488 cs_L_15 (c_L_below (by decide) (by decide)) rfl (by decide) (by decide) rfl (Nat.le_of_ble_eq_true rfl) ?_
  refine rn_dup_x2 dL_chip_491 rfl rfl rfl ?_
  refine rnE_ias dL_chip_492 e1 (vp_in_nI (by decide) (by decide)) ?_
  rw [nI_clamp (by decide)]
  refine rn_callV dL_chip_493 cv_L_44 c3 rfl h_SH rfl rfl (by decide) (by decide) rfl (Nat.le_of_ble_eq_true rfl) ?_
  refine rn_pop dL_chip_496 rfl ?_
  exact rn_subg rfl z
theorem ch_449 (hK : ∀ S E, CI S (k + 1) 0 1 3 → RWs S E (k + 1) → E.length = 2 * k + 3 → kd S 0 ≠ 8 → Gc l D ad tc L xs sF 147 [(6, .int (nI (k + 1))), (5, .ref 85), (4, .int (nI 7)), (3, .int (nI 11)), (2, .int (nI 3)), (1, .ref 0), (0, .ref 1)] [] (wd S E, s)) (hk : k < 11) (h : CI S (k + 1) 0 1 3) (hR : RWs S E (k + 1)) (hE : E.length = 2 * k + 3) (h8 : kd S 0 ≠ 8) (hkd : kd S k = K) : Gc l D ad tc L xs sF 449 [(9, .int K), (10, .ref (2 * k + 2 + 84 + 1)), (7, .int x), (6, .int (nI k)), (5, .ref 85), (4, .int (nI 7)), (3, .int (nI 11)), (2, .int (nI 3)), (1, .ref 0), (0, .ref 1)] [] (wd S E, s) := by
  by_cases h67 : K = 6 ∨ K = 7
  · have G463 : Gc l D ad tc L xs sF 463 [(9, .int K), (10, .ref (2 * k + 2 + 84 + 1)), (7, .int x), (6, .int (nI k)), (5, .ref 85), (4, .int (nI 7)), (3, .int (nI 11)), (2, .int (nI 3)), (1, .ref 0), (0, .ref 1)] [] (wd S E, s) := by
      by_cases hb : bel (x >>> (5 &&& 31)) 2 = 0
      · refine Gc.of (fun r h' z => ?_) (ch_474 (x := x) (K := K) hK hk h hR hE h8 (by rw [hkd]; exact h67))
        refine rn_iload dL_chip_463 rfl ?_
        refine rn_iconst (v := 5) dL_chip_465 rfl ?_
        refine rn_ishr dL_chip_466 ?_
        refine rn_iconst (v := nI 2) dL_chip_467 (by decide) ?_
        refine rn_callS dL_chip_468 cs_L_15 (c_L_below (by decide) (by decide)) rfl (by decide) (by decide) rfl (Nat.le_of_ble_eq_true rfl) ?_
        rw [hb]
        refine rn_if_ne (tgt := 497) dL_chip_471 rfl (fun q1 => absurd q1 (by exact fun z9 => z9 nI_0)) (fun _ => ?_)
        exact rn_subg rfl z
      · refine Gc.of (fun r h' z => ?_) (ch_497 (x := x) (K := K) hK hk h hR hE h8)
        refine rn_iload dL_chip_463 rfl ?_
        refine rn_iconst (v := 5) dL_chip_465 rfl ?_
        refine rn_ishr dL_chip_466 ?_
        refine rn_iconst (v := nI 2) dL_chip_467 (by decide) ?_
        refine rn_callS dL_chip_468 cs_L_15 (c_L_below (by decide) (by decide)) rfl (by decide) (by decide) rfl (Nat.le_of_ble_eq_true rfl) ?_
        refine rn_if_ne (tgt := 497) dL_chip_471 rfl (fun _ => ?_) (fun q1 => absurd q1 (by exact nI_ne0 (by omega) (by have := bel_lt (v := x >>> (5 &&& 31)) (n := 2) (by decide); omega)))
        exact rn_subg rfl z
    rcases h67 with rfl | rfl
    · refine Gc.of (fun r h' z => ?_) G463
      refine rn_iload dL_chip_449 rfl ?_
      refine rn_bipush (v := 6) dL_chip_451 rfl ?_
      refine rn_icmp_eq (tgt := 463) dL_chip_453 rfl (fun _ => ?_) (fun q1 => absurd (by rfl) q1)
      exact rn_subg rfl z
    · refine Gc.of (fun r h' z => ?_) G463
      refine rn_iload dL_chip_449 rfl ?_
      refine rn_bipush (v := 6) dL_chip_451 rfl ?_
      refine rn_icmp_eq (tgt := 463) dL_chip_453 rfl (fun q1 => absurd q1 (by decide)) (fun _ => ?_)
      refine rn_iload dL_chip_456 rfl ?_
      refine rn_bipush (v := 7) dL_chip_458 rfl ?_
      refine rn_icmp_ne (tgt := 497) dL_chip_460 rfl (fun q2 => absurd q2 (by exact fun z9 => z9 rfl)) (fun _ => ?_)
      exact rn_subg rfl z
  · refine Gc.of (fun r h' z => ?_) (ch_497 (x := x) (K := K) hK hk h hR hE h8)
    refine rn_iload dL_chip_449 rfl ?_
    refine rn_bipush (v := 6) dL_chip_451 rfl ?_
    refine rn_icmp_eq (tgt := 463) dL_chip_453 rfl (fun q1 => absurd q1 (by exact fun z9 => h67 (Or.inl z9))) (fun _ => ?_)
    refine rn_iload dL_chip_456 rfl ?_
    refine rn_bipush (v := 7) dL_chip_458 rfl ?_
    refine rn_icmp_ne (tgt := 497) dL_chip_460 rfl (fun _ => ?_) (fun q2 => absurd q2 (by exact fun z9 => h67 (Or.inr z9)))
    exact rn_subg rfl z
theorem ch_415 (hK : ∀ S E, CI S (k + 1) 0 1 3 → RWs S E (k + 1) → E.length = 2 * k + 3 → kd S 0 ≠ 8 → Gc l D ad tc L xs sF 147 [(6, .int (nI (k + 1))), (5, .ref 85), (4, .int (nI 7)), (3, .int (nI 11)), (2, .int (nI 3)), (1, .ref 0), (0, .ref 1)] [] (wd S E, s)) (hk : k < 11) (h : CI S (k + 1) 0 1 3) (hR : RWs S E (k + 1)) (hE : E.length = 2 * k + 3) (h8 : kd S 0 ≠ 8) (hkd : kd S k = K) : Gc l D ad tc L xs sF 415 [(9, .int K), (10, .ref (2 * k + 2 + 84 + 1)), (7, .int x), (6, .int (nI k)), (5, .ref 85), (4, .int (nI 7)), (3, .int (nI 11)), (2, .int (nI 3)), (1, .ref 0), (0, .ref 1)] [] (wd S E, s) := by
  by_cases hb : bel (x >>> (7 &&& 31)) 3 = 0
  · obtain ⟨f, e1, e2, e3⟩ := hR.2 k (by omega)
    obtain ⟨S1, v1, c1, c2, c3⟩ := k_wire (l := l) (D := D) (ad := ad) (tc := tc) (L := L) (xs := xs) (sl := s) (E := E.set (2 * k + 2) (rwC (upd f 5 (nI (bel (x >>> (9 &&& 31)) 81))))) (q := bel (x >>> (9 &&& 31)) 81) h (i := k) (by omega) (by have := bel_lt (v := x >>> (9 &&& 31)) (n := 81) (by decide); omega)
    refine Gc.of (fun r h' z => ?_) (ch_449 (x := x) (K := K) hK hk c1 (RWs_KS (RWs_set (f' := upd f 5 (nI (bel (x >>> (9 &&& 31)) 81))) hR (by omega) e1 rfl rfl) c2 (by omega)) (by rw [List.length_set]; exact hE) (by rw [(c2 0 (by omega)).1]; exact h8) (by rw [(c2 k (by omega)).1]; exact hkd))
    refine rn_iload dL_chip_415 rfl ?_
    refine rn_bipush (v := 7) dL_chip_417 rfl ?_
    refine rn_ishr dL_chip_419 ?_
    refine rn_iconst (v := nI 3) dL_chip_420 (by decide) ?_
    refine rn_callS dL_chip_421 cs_L_15 (c_L_below (by decide) (by decide)) rfl (by decide) (by decide) rfl (Nat.le_of_ble_eq_true rfl) ?_
    rw [hb]
    refine rn_if_ne (tgt := 449) dL_chip_424 rfl (fun q1 => absurd q1 (by exact fun z9 => z9 nI_0)) (fun _ => ?_)
    refine rn_aload_n dL_chip_427 rfl ?_
    refine rn_iload dL_chip_428 rfl ?_
    refine rn_aload dL_chip_430 rfl ?_
    refine rn_iconst (v := nI 5) dL_chip_432 (by decide) ?_
    refine rn_iload dL_chip_433 rfl ?_
    refine rn_bipush (v := 9) dL_chip_435 rfl ?_
    refine rn_ishr dL_chip_437 ?_
    refine rn_bipush (v := nI 81) dL_chip_438 (by decide) ?_
    refine rn_callS dL_chip_440 cs_L_15 (c_L_below (by decide) (by decide)) rfl (by decide) (by decide) rfl (Nat.le_of_ble_eq_true rfl) ?_
    refine rn_dup_x2 dL_chip_443 rfl rfl rfl ?_
    refine rnE_ias dL_chip_444 e1 (vp_in_nI (by decide) (by decide)) ?_
    rw [nI_clamp (by decide)]
    refine rn_callV dL_chip_445 cv_L_41 c3 rfl h_SH rfl rfl (by decide) (by decide) rfl (Nat.le_of_ble_eq_true rfl) ?_
    refine rn_pop dL_chip_448 rfl ?_
    exact rn_subg rfl z
  · refine Gc.of (fun r h' z => ?_) (ch_449 (x := x) (K := K) hK hk h hR hE h8 hkd)
    refine rn_iload dL_chip_415 rfl ?_
    refine rn_bipush (v := 7) dL_chip_417 rfl ?_
    refine rn_ishr dL_chip_419 ?_
    refine rn_iconst (v := nI 3) dL_chip_420 (by decide) ?_
    refine rn_callS dL_chip_421 cs_L_15 (c_L_below (by decide) (by decide)) rfl (by decide) (by decide) rfl (Nat.le_of_ble_eq_true rfl) ?_
    refine rn_if_ne (tgt := 449) dL_chip_424 rfl (fun _ => ?_) (fun q1 => absurd q1 (by exact nI_ne0 (by omega) (by have := bel_lt (v := x >>> (7 &&& 31)) (n := 3) (by decide); omega)))
    exact rn_subg rfl z
theorem ch_381 (hK : ∀ S E, CI S (k + 1) 0 1 3 → RWs S E (k + 1) → E.length = 2 * k + 3 → kd S 0 ≠ 8 → Gc l D ad tc L xs sF 147 [(6, .int (nI (k + 1))), (5, .ref 85), (4, .int (nI 7)), (3, .int (nI 11)), (2, .int (nI 3)), (1, .ref 0), (0, .ref 1)] [] (wd S E, s)) (hk : k < 11) (h : CI S (k + 1) 0 1 3) (hR : RWs S E (k + 1)) (hE : E.length = 2 * k + 3) (h8 : kd S 0 ≠ 8) (hkd : kd S k = K) : Gc l D ad tc L xs sF 381 [(9, .int K), (10, .ref (2 * k + 2 + 84 + 1)), (7, .int x), (6, .int (nI k)), (5, .ref 85), (4, .int (nI 7)), (3, .int (nI 11)), (2, .int (nI 3)), (1, .ref 0), (0, .ref 1)] [] (wd S E, s) := by
  by_cases hb : bel (x >>> (4 &&& 31)) 3 = 0
  · obtain ⟨f, e1, e2, e3⟩ := hR.2 k (by omega)
    obtain ⟨S1, v1, c1, c2, c3⟩ := k_size (l := l) (D := D) (ad := ad) (tc := tc) (L := L) (xs := xs) (sl := s) (E := E.set (2 * k + 2) (rwC (upd f 4 ((1 : Int32) <<< (nI (bel (x >>> (6 &&& 31)) 3) &&& 31))))) (z := ((1 : Int32) <<< (nI (bel (x >>> (6 &&& 31)) 3) &&& 31))) h (i := k) (by omega) (sh_3 _ (bel_lt (by decide)))
    refine Gc.of (fun r h' z => ?_) (ch_415 (x := x) (K := K) hK hk c1 (RWs_KS (RWs_set (f' := upd f 4 ((1 : Int32) <<< (nI (bel (x >>> (6 &&& 31)) 3) &&& 31))) hR (by omega) e1 rfl rfl) c2 (by omega)) (by rw [List.length_set]; exact hE) (by rw [(c2 0 (by omega)).1]; exact h8) (by rw [(c2 k (by omega)).1]; exact hkd))
    refine rn_iload dL_chip_381 rfl ?_
    refine rn_iconst (v := 4) dL_chip_383 rfl ?_
    refine rn_ishr dL_chip_384 ?_
    refine rn_iconst (v := nI 3) dL_chip_385 (by decide) ?_
    refine rn_callS dL_chip_386 cs_L_15 (c_L_below (by decide) (by decide)) rfl (by decide) (by decide) rfl (Nat.le_of_ble_eq_true rfl) ?_
    rw [hb]
    refine rn_if_ne (tgt := 415) dL_chip_389 rfl (fun q1 => absurd q1 (by exact fun z9 => z9 nI_0)) (fun _ => ?_)
    refine rn_aload_n dL_chip_392 rfl ?_
    refine rn_iload dL_chip_393 rfl ?_
    refine rn_aload dL_chip_395 rfl ?_
    refine rn_iconst (v := nI 4) dL_chip_397 (by decide) ?_
    refine rn_iconst (v := 1) dL_chip_398 rfl ?_
    refine rn_iload dL_chip_399 rfl ?_
    refine rn_bipush (v := 6) dL_chip_401 rfl ?_
    refine rn_ishr dL_chip_403 ?_
    refine rn_iconst (v := nI 3) dL_chip_404 (by decide) ?_
    refine rn_callS dL_chip_405 cs_L_15 (c_L_below (by decide) (by decide)) rfl (by decide) (by decide) rfl (Nat.le_of_ble_eq_true rfl) ?_
    refine rn_ishl dL_chip_408 ?_
    refine rn_dup_x2 dL_chip_409 rfl rfl rfl ?_
    refine rnE_ias dL_chip_410 e1 (vp_in_nI (by decide) (by decide)) ?_
    rw [nI_clamp (by decide)]
    refine rn_callV dL_chip_411 cv_L_38 c3 rfl h_SH rfl rfl (by decide) (by decide) rfl (Nat.le_of_ble_eq_true rfl) ?_
    refine rn_pop dL_chip_414 rfl ?_
    exact rn_subg rfl z
  · refine Gc.of (fun r h' z => ?_) (ch_415 (x := x) (K := K) hK hk h hR hE h8 hkd)
    refine rn_iload dL_chip_381 rfl ?_
    refine rn_iconst (v := 4) dL_chip_383 rfl ?_
    refine rn_ishr dL_chip_384 ?_
    refine rn_iconst (v := nI 3) dL_chip_385 (by decide) ?_
    refine rn_callS dL_chip_386 cs_L_15 (c_L_below (by decide) (by decide)) rfl (by decide) (by decide) rfl (Nat.le_of_ble_eq_true rfl) ?_
    refine rn_if_ne (tgt := 415) dL_chip_389 rfl (fun _ => ?_) (fun q1 => absurd q1 (by exact nI_ne0 (by omega) (by have := bel_lt (v := x >>> (4 &&& 31)) (n := 3) (by decide); omega)))
    exact rn_subg rfl z
end CH2
