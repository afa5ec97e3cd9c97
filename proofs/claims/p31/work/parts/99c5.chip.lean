/-! the law's chip, 5 -/
section CH2
variable {l : Launch} {D : va_G} {ad : Nat → Nat} {tc : Nat → ClassId} {L : Nat} {xs : Nat → Int32} {S : jS} {E : List j_C} {s sF k : Nat} {x K : Int32}
theorem ch_506 (hL : L < 1000) : ∀ m k : Nat, ∀ (S : jS) (E : List j_C), k + m = 11 → CI S 11 0 1 3 → RWs S E 11 → E.length = 23 → kd S 0 ≠ 8 → Gc l D ad tc L xs sF 506 [(6, .int (nI k)), (5, .ref 85), (4, .int (nI 7)), (3, .int (nI 11)), (2, .int (nI 3)), (1, .ref 0), (0, .ref 1)] [] (wd S E, sF) := by
  intro m
  induction m with
  | zero =>
    intro k S E hk h hR hE h8
    have hk' : k = 11 := by omega
    subst hk'
    refine ⟨S, E, ⟨h, hR, hE⟩, ?_⟩
    refine rn_iload dL_chip_506 rfl ?_
    refine rn_iload_n dL_chip_508 rfl ?_
    refine rn_icmp_ge (tgt := 575) dL_chip_509 rfl (fun _ => ?_) (fun q1 => absurd (by exact Int32.le_refl _) q1)
    refine rn_aload dL_chip_575 rfl ?_
    exact rn_ret dL_chip_577 trivial (by simp_all [bI])
  | succ m ih =>
    intro k S E hk1 h hR hE h8
    have hk : k < 11 := by omega
    have K4 : nI k < nI 11 := nI_lt hk (by decide)
    obtain ⟨f, e1, e2, e3⟩ := hR.2 k hk
    by_cases h6 : kd S k = 6
    · obtain ⟨b, b1, b2, b3⟩ := c_L_inner (l := l) (D := D) (ad := ad) (tc := tc) (L := L) (xs := xs) (S := S) (E := E) (sl := sF) (k := 11) (x := (celV L xs (3 + k + 3) + nI (5 * k))) hR (by decide) h8
      have hR2 : RWs S (E.set (2 * k + 2) (rwC (upd f 1 (nI b)))) 11 := RWs_set hR hk e1 rfl rfl
      have e1' : (E.set (2 * k + 2) (rwC (upd f 1 (nI b))))[2 * k + 2]? = some (rwC (upd f 1 (nI b))) := List.getElem?_set_self (List.getElem?_eq_some_iff.mp e1).1
      obtain ⟨S1, v1, c1, c2, c3⟩ := k_feed (l := l) (D := D) (ad := ad) (tc := tc) (L := L) (xs := xs) (sl := sF) (E := (E.set (2 * k + 2) (rwC (upd f 1 (nI b))))) (i := k) (a := b) h hk (by omega) h6 b2
      refine Gc.of (fun r h' z => ?_) (ih (k + 1) S1 (E.set (2 * k + 2) (rwC (upd f 1 (nI b)))) (by omega) c1 (RWs_KS hR2 c2 (by decide)) (by rw [List.length_set]; exact hE) (by rw [(c2 0 (by decide)).1]; exact h8))
      refine rn_iload dL_chip_506 rfl ?_
      refine rn_iload_n dL_chip_508 rfl ?_
      refine rn_icmp_ge (tgt := 575) dL_chip_509 rfl (fun q1 => absurd q1 (by exact Int32.not_le.mpr K4)) (fun _ => ?_)
      refine rn_aload dL_chip_512 rfl ?_
      refine rn_iload dL_chip_514 rfl ?_
      refine rnE_aald hR hk (by decide) dL_chip_516 ?_
      refine rn_iconst (v := nI 0) dL_chip_517 (by decide) ?_
      refine rnE_iald dL_chip_518 e1 (vp_in_nI (by decide) (by decide)) ?_
      rw [nI_clamp (by decide)]
      refine rn_topi (y := kd S k) e2 ?_
      refine rn_bipush (v := 6) dL_chip_519 rfl ?_
      refine rn_icmp_eq (tgt := 527) dL_chip_521 rfl (fun _ => ?_) (fun q2 => absurd (by exact h6) q2)
      refine rn_aload dL_chip_527 rfl ?_
      refine rn_iload dL_chip_529 rfl ?_
      refine rnE_aald hR hk (by decide) dL_chip_531 ?_
      refine rn_iconst (v := nI 1) dL_chip_532 (by decide) ?_
      refine rn_aload dL_chip_533 rfl ?_
      refine rn_iload_n dL_chip_535 rfl ?_
      refine rn_aload_n dL_chip_536 rfl ?_
      refine rn_iload_n dL_chip_537 rfl ?_
      refine rn_iload dL_chip_538 rfl ?_
      refine rn_iadd dL_chip_540 ?_
      refine rn_topi (nI_add _ _) ?_
      refine rn_iconst (v := nI 3) dL_chip_541 (by decide) ?_
      refine rn_iadd dL_chip_542 ?_
      refine rn_topi (nI_add _ _) ?_
      refine rn_callS dL_chip_543 cs_L_9 (c_L_cell hL (by omega)) rfl (by decide) (by decide) rfl (Nat.le_of_ble_eq_true rfl) ?_
      refine rn_iconst (v := 5) dL_chip_546 rfl ?_
      refine rn_iload dL_chip_547 rfl ?_
      refine rn_imul dL_chip_549 ?_
      refine rn_topi (nI_mul _ _) ?_
      refine rn_iadd dL_chip_550 ?_
      refine rn_callS dL_chip_551 cs_L_31 b3 rfl (by decide) (by decide) rfl (Nat.le_of_ble_eq_true rfl) ?_
      refine rnE_ias dL_chip_554 e1 (vp_in_nI (by decide) (by decide)) ?_
      rw [nI_clamp (by decide)]
      refine rn_aload_n dL_chip_555 rfl ?_
      refine rn_iload dL_chip_556 rfl ?_
      refine rn_aload dL_chip_558 rfl ?_
      refine rn_iload dL_chip_560 rfl ?_
      refine rnE_aald hR2 hk (by decide) dL_chip_562 ?_
      refine rn_iconst (v := nI 1) dL_chip_563 (by decide) ?_
      refine rnE_iald dL_chip_564 e1' (vp_in_nI (by decide) (by decide)) ?_
      rw [nI_clamp (by decide)]
      refine rn_topi (y := nI b) rfl ?_
      refine rn_callV dL_chip_565 cv_L_47 c3 rfl h_SH rfl rfl (by decide) (by decide) rfl (Nat.le_of_ble_eq_true rfl) ?_
      refine rn_pop dL_chip_568 rfl ?_
      refine rn_iinc dL_chip_569 rfl (nI_1 _) (by decide) rfl ?_
      refine rn_goto (tgt := 506) dL_chip_572 rfl ?_
      exact rn_subg rfl z
    · refine Gc.of (fun r h' z => ?_) (ih (k + 1) S E (by omega) h hR hE h8)
      refine rn_iload dL_chip_506 rfl ?_
      refine rn_iload_n dL_chip_508 rfl ?_
      refine rn_icmp_ge (tgt := 575) dL_chip_509 rfl (fun q1 => absurd q1 (by exact Int32.not_le.mpr K4)) (fun _ => ?_)
      refine rn_aload dL_chip_512 rfl ?_
      refine rn_iload dL_chip_514 rfl ?_
      refine rnE_aald hR hk (by decide) dL_chip_516 ?_
      refine rn_iconst (v := nI 0) dL_chip_517 (by decide) ?_
      refine rnE_iald dL_chip_518 e1 (vp_in_nI (by decide) (by decide)) ?_
      rw [nI_clamp (by decide)]
      refine rn_topi (y := kd S k) e2 ?_
      refine rn_bipush (v := 6) dL_chip_519 rfl ?_
      refine rn_icmp_eq (tgt := 527) dL_chip_521 rfl (fun q2 => absurd q2 (by exact h6)) (fun _ => ?_)
      refine rn_goto (tgt := 569) dL_chip_524 rfl ?_
      refine rn_iinc dL_chip_569 rfl (nI_1 _) (by decide) rfl ?_
      refine rn_goto (tgt := 506) dL_chip_572 rfl ?_
      exact rn_subg rfl z
theorem ch_loop (hL : L < 1000) : ∀ m k s : Nat, ∀ (S : jS) (E : List j_C), k + m = 11 → s + 16 * m = sF → CI S k 0 1 3 → RWs S E k → E.length = 2 * k + 1 → kd S 0 ≠ 8 → Gc l D ad tc L xs sF 147 [(6, .int (nI k)), (5, .ref 85), (4, .int (nI 7)), (3, .int (nI 11)), (2, .int (nI 3)), (1, .ref 0), (0, .ref 1)] [] (wd S E, s) := by
  intro m
  induction m with
  | zero =>
    intro k s S E hk hs h hR hE h8
    have hk' : k = 11 := by omega
    subst hk'
    have hs' : s = sF := by omega
    subst hs'
    refine Gc.of (fun r h' z => ?_) (ch_506 hL 11 0 S E (by decide) h hR hE h8)
    refine rn_iload dL_chip_147 rfl ?_
    refine rn_iload_n dL_chip_149 rfl ?_
    refine rn_icmp_ge (tgt := 503) dL_chip_150 rfl (fun _ => ?_) (fun q1 => absurd (by exact Int32.le_refl _) q1)
    refine rn_iconst (v := nI 0) dL_chip_503 (by decide) ?_
    refine rn_istore dL_chip_504 (by decide) rfl ?_
    exact rn_subg rfl z
  | succ m ih =>
    intro k s S E hk hs h hR hE h8
    exact ch_147 hL (fun S E q1 q2 q3 q4 => ih (k + 1) (s + 9 + 7) S E (by omega) (by omega) q1 q2 (by omega) q4) (by omega) h hR hE h8
end CH2
