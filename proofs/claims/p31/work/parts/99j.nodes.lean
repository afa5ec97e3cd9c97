/-! the law's loop over the nodes -/
theorem lsX_0 {Q : QC} {b : Bool} {i : Nat} : lsX Q b i 0 = lsE Q b i := by
  unfold lsX
  split <;> rfl
section LP
variable {l : Launch} {D : va_G} {ad : Nat → Nat} {tc : Nat → ClassId} {L : Nat} {xs : Nat → Int32} {S : jS} {E : List j_C} {sl : Nat} {sm : Int64} {Q : QC}
theorem dE_le {p : Int} (hp : 0 ≤ p ∧ p ≤ 17000) : dE p 1 ≤ dE p 0 ∧ 0 ≤ dE p 1 ∧ dE p 0 ≤ 600000 := by
  unfold dE
  rw [if_neg (by decide), if_pos rfl]
  omega
set_option maxRecDepth 20000 in
theorem lp_nodes (h11 : Q.n = 11) (h2 : Q.nc = 2) (h3 : Q.nk = 3) (hE : E.length = 23) (hR : RWs Q.X E 11) : ∀ m i : Nat, i + m = 11 → ∀ S, Inq Q S → ∃ S2, Inq Q S2 ∧ ∀ (r : Option Value) (h' : j_H), Rn l D ad tc L xs mL_law 12 400 365 [(6, .int (nI (ckE Q.X 11 11))), (5, .ref 108), (3, .long sm), (2, .ref 85), (1, .ref 1), (0, .ref 0)] [] (wd S2 (E ++ [dl (lsE Q true 11) (lsE Q false 11)]), sl) r h' → Rn l D ad tc L xs mL_law 12 400 78 [(7, .int (nI i)), (6, .int (nI (ckE Q.X 11 i))), (5, .ref 108), (3, .long sm), (2, .ref 85), (1, .ref 1), (0, .ref 0)] [] (wd S (E ++ [dl (lsE Q true i) (lsE Q false i)]), sl) r h' := by
  intro m
  induction m with
  | zero =>
    intro i hi S h
    have hi' : i = 11 := by omega
    subst hi'
    refine ⟨S, h, fun r h' z => ?_⟩
    refine rn_iload dL_law_78 rfl ?_
    refine rn_bipush (v := nI 11) dL_law_80 (by decide) ?_
    refine rn_icmp_ge (tgt := 365) dL_law_82 rfl (fun _ => ?_) (fun q1 => absurd (by exact Int32.le_refl _) q1)
    exact rn_subg rfl z
  | succ m ih =>
    intro i hi1 S h
    have hi : i < 11 := by omega
    have hx := Inq_X h
    have K4 : nI i < nI 11 := nI_lt hi (by decide)
    have dp := dE_le (Q_p h i (by omega))
    have hq := qLd_r (Told_z hx.1) (fun i hi => (h.1.2.1 i hi).1) Q.n h.1.1.1.2 i (by omega)
    obtain ⟨f, e1, e2a, -⟩ := hR.2 i hi
    have e1a : (E ++ [dl (lsE Q true i) (lsE Q false i)])[2 * i + 2]? = some (rwC f) := by
      rw [List.getElem?_append_left (by omega)]
      exact e1
    obtain ⟨S1, h1, k1⟩ := q_takes_f (l := l) (D := D) (ad := ad) (tc := tc) (L := L) (xs := xs) (sl := sl) (E := E ++ [dl (lsE Q true i) (lsE Q false i)]) (i := i) h (by omega)
    obtain ⟨S2, h2', k2⟩ := q_takes_r (l := l) (D := D) (ad := ad) (tc := tc) (L := L) (xs := xs) (sl := sl) (E := E ++ [dl (lsE Q true i) (lsE Q false i)]) (i := i) h1 (by omega)
    obtain ⟨S3, h3', k3⟩ := q_load (l := l) (D := D) (ad := ad) (tc := tc) (L := L) (xs := xs) (sl := sl) (E := E ++ [dl (lsE Q true i) (lsE Q false i)]) (i := i) h2' (by omega)
    obtain ⟨S4, h4, k4⟩ := lp_corners (l := l) (D := D) (ad := ad) (tc := tc) (L := L) (xs := xs) (sl := sl) (sm := sm) (ck := nI (ckE Q.X 11 i)) h11 h2 h3 hE hR (i := i) (by omega) 2 0 (by decide) S3 h3'
    rw [lsX_0, lsX_0, lsX_2 h2, lsX_2 h2] at k4
    rcases (show enB Q.X i = true ∨ enB Q.X i = false by cases enB Q.X i; exact Or.inr rfl; exact Or.inl rfl) with he | he
    · have hkd : ¬ kd Q.X i < 6 := by
        unfold kd; rcases of_decide_eq_true he with z | z | z <;> rw [z] <;> decide
      obtain ⟨S5, h5, k5⟩ := lp_checks (l := l) (D := D) (ad := ad) (tc := tc) (L := L) (xs := xs) (sl := sl) (sm := sm) (a5 := 108) (n0 := ckE Q.X 11 i) (E := E ++ [dl (lsE Q true (i + 1)) (lsE Q false (i + 1))]) h11 (RWs_app hR) (by omega) he 11 0 (by decide) S4 h4
      obtain ⟨S6, h6, ih⟩ := ih (i + 1) (by omega) S5 h5
      refine ⟨S6, h6, fun r h' z => ?_⟩
      have B359 : Rn l D ad tc L xs mL_law 12 400 359 [(8, .int (bI (enB Q.X i))), (6, .int (nI (ckE Q.X 11 i + ckS Q.X i 11))), (7, .int (nI i)), (5, .ref 108), (3, .long sm), (2, .ref 85), (1, .ref 1), (0, .ref 0)] [] (wd S5 (E ++ [dl (lsE Q true (i + 1)) (lsE Q false (i + 1))]), sl) r h' := by
        refine rn_iinc dL_law_359 rfl (nI_1 _) (by decide) rfl ?_
        refine rn_goto (tgt := 78) dL_law_362 rfl ?_
        exact rn_subg rfl (ih r h' z)
      have B299 : Rn l D ad tc L xs mL_law 12 400 299 [(8, .int (bI (enB Q.X i))), (6, .int (nI (ckE Q.X 11 i))), (7, .int (nI i)), (5, .ref 108), (3, .long sm), (2, .ref 85), (1, .ref 1), (0, .ref 0)] [] (wd S4 (E ++ [dl (lsE Q true (i + 1)) (lsE Q false (i + 1))]), sl) r h' := by
        refine rn_iconst (v := nI 0) dL_law_299 (by decide) ?_
        refine rn_istore dL_law_300 (by decide) rfl ?_
        exact rn_subg rfl (k5 r h' B359)
      have B137 : Rn l D ad tc L xs mL_law 12 400 137 [(9, .int (nI 0)), (8, .int (bI (enB Q.X i))), (6, .int (nI (ckE Q.X 11 i))), (7, .int (nI i)), (5, .ref 108), (3, .long sm), (2, .ref 85), (1, .ref 1), (0, .ref 0)] [] (wd S3 (E ++ [dl (lsE Q true i) (lsE Q false i)]), sl) r h' := k4 r h' B299
      refine rn_iload dL_law_78 rfl ?_
      refine rn_bipush (v := nI 11) dL_law_80 (by decide) ?_
      refine rn_icmp_ge (tgt := 365) dL_law_82 rfl (fun q1 => absurd q1 (by exact Int32.not_le.mpr K4)) (fun _ => ?_)
      refine rn_aload_n dL_law_85 rfl ?_
      refine rn_iload dL_law_86 rfl ?_
      refine rn_iconst (v := 0) dL_law_88 rfl ?_
      refine rn_callV dL_law_89 cv_L_64 k1 rfl h_SH rfl rfl (by decide) (by decide) rfl (Nat.le_of_ble_eq_true rfl) ?_
      refine rn_aload_n dL_law_92 rfl ?_
      refine rn_iload dL_law_93 rfl ?_
      refine rn_iconst (v := 1) dL_law_95 rfl ?_
      refine rn_callV dL_law_96 cv_L_64 k2 rfl h_SH rfl rfl (by decide) (by decide) rfl (Nat.le_of_ble_eq_true rfl) ?_
      refine rn_dcmpv dL_law_99 (dB_of (by omega) (by omega)) (dB_of (by omega) (by omega)) ?_
      refine rn_if_gt (tgt := 114) dL_law_100 rfl (fun q2 => absurd q2 (by exact fun z9 => by have := cmpI_gt.mp z9; omega)) (fun _ => ?_)
      refine rn_aload_n dL_law_103 rfl ?_
      refine rn_iload dL_law_104 rfl ?_
      refine rn_callV dL_law_106 cv_L_68 k3 rfl h_SH rfl rfl (by decide) (by decide) rfl (Nat.le_of_ble_eq_true rfl) ?_
      refine rn_dcon0 dL_law_109 ?_
      refine rn_dcmpv dL_law_110 (dB_of (by omega) (by omega)) dB_0 ?_
      refine rn_if_ge (tgt := 116) dL_law_111 rfl (fun _ => ?_) (fun q3 => absurd (by exact cmpI_ge.mpr (by omega)) q3)
      refine rn_aload_n dL_law_116 rfl ?_
      refine rn_iload dL_law_117 rfl ?_
      refine rnX_aald (RWs_app hR) (by omega) (by decide) dL_law_119 ?_
      refine rn_iconst (v := nI 0) dL_law_120 (by decide) ?_
      refine rnE_iald dL_law_121 e1a (vp_in_nI (by decide) (by decide)) ?_
      rw [nI_clamp (by decide)]
      refine rn_topi (y := kd Q.X i) e2a ?_
      refine rn_bipush (v := 6) dL_law_122 rfl ?_
      refine rn_icmp_lt (tgt := 131) dL_law_124 rfl (fun q4 => absurd q4 (by exact hkd)) (fun _ => ?_)
      refine rn_iconst (v := 1) dL_law_127 rfl ?_
      refine rn_goto (tgt := 132) dL_law_128 rfl ?_
      refine rn_topi (y := bI (enB Q.X i)) (by rw [he]; rfl) ?_
      refine rn_istore dL_law_132 (by decide) rfl ?_
      refine rn_iconst (v := nI 0) dL_law_134 (by decide) ?_
      refine rn_istore dL_law_135 (by decide) rfl ?_
      exact rn_subg rfl B137
    · have hkd : kd Q.X i < 6 := by
        have hb := (hx.1.2.2.2.2.2.1 i (by omega)).1
        have hne := of_decide_eq_false he
        have a1 := hb.1
        have a2 := hb.2
        have b6 : kd Q.X i ≠ 6 := fun z => hne (Or.inl z)
        have b7 : kd Q.X i ≠ 7 := fun z => hne (Or.inr (Or.inl z))
        have b8 : kd Q.X i ≠ 8 := fun z => hne (Or.inr (Or.inr z))
        obtain ⟨y, hy, ey⟩ := nI_of (Int32.not_lt.mpr a1)
        have y8 : y ≤ 8 := by
          rw [ey, show (8 : Int32) = nI 8 by decide, Int32.le_iff_toInt_le, nI_toInt (by omega), nI_toInt (by omega)] at a2
          omega
        rw [ey] at b6 b7 b8 ⊢
        have c6 : y ≠ 6 := fun z => b6 (by rw [z]; rfl)
        have c7 : y ≠ 7 := fun z => b7 (by rw [z]; rfl)
        have c8 : y ≠ 8 := fun z => b8 (by rw [z]; rfl)
        rw [show (6 : Int32) = nI 6 by decide]
        exact nI_lt (by omega) (by decide)
      obtain ⟨S6, h6, ih⟩ := ih (i + 1) (by omega) S4 h4
      refine ⟨S6, h6, fun r h' z => ?_⟩
      have hck : ckE Q.X 11 (i + 1) = ckE Q.X 11 i := by
        show ckE Q.X 11 i + ckS Q.X i 11 = _
        rw [ckS_0 hx.1 hx.2 (by omega) he 11 (by decide)]
        rfl
      rw [hck] at ih
      have B359 : Rn l D ad tc L xs mL_law 12 400 359 [(8, .int (bI (enB Q.X i))), (6, .int (nI (ckE Q.X 11 i))), (7, .int (nI i)), (5, .ref 108), (3, .long sm), (2, .ref 85), (1, .ref 1), (0, .ref 0)] [] (wd S4 (E ++ [dl (lsE Q true (i + 1)) (lsE Q false (i + 1))]), sl) r h' := by
        refine rn_iinc dL_law_359 rfl (nI_1 _) (by decide) rfl ?_
        refine rn_goto (tgt := 78) dL_law_362 rfl ?_
        exact rn_subg rfl (ih r h' z)
      have B299 : Rn l D ad tc L xs mL_law 12 400 299 [(8, .int (bI (enB Q.X i))), (6, .int (nI (ckE Q.X 11 i))), (7, .int (nI i)), (5, .ref 108), (3, .long sm), (2, .ref 85), (1, .ref 1), (0, .ref 0)] [] (wd S4 (E ++ [dl (lsE Q true (i + 1)) (lsE Q false (i + 1))]), sl) r h' := by
        refine rn_iconst (v := nI 0) dL_law_299 (by decide) ?_
        refine rn_istore dL_law_300 (by decide) rfl ?_
        refine rn_iload dL_law_302 rfl ?_
        refine rn_bipush (v := nI 11) dL_law_304 (by decide) ?_
        refine rn_icmp_ge (tgt := 359) dL_law_306 rfl (fun q1 => absurd q1 (by decide)) (fun _ => ?_)
        refine rn_iload dL_law_309 rfl ?_
        refine rn_topi (y := 0) (by rw [he]; rfl) ?_
        refine rn_if_eq (tgt := 359) dL_law_311 rfl (fun _ => ?_) (fun q2 => absurd (by decide) q2)
        exact rn_subg rfl B359
      have B137 : Rn l D ad tc L xs mL_law 12 400 137 [(9, .int (nI 0)), (8, .int (bI (enB Q.X i))), (6, .int (nI (ckE Q.X 11 i))), (7, .int (nI i)), (5, .ref 108), (3, .long sm), (2, .ref 85), (1, .ref 1), (0, .ref 0)] [] (wd S3 (E ++ [dl (lsE Q true i) (lsE Q false i)]), sl) r h' := k4 r h' B299
      refine rn_iload dL_law_78 rfl ?_
      refine rn_bipush (v := nI 11) dL_law_80 (by decide) ?_
      refine rn_icmp_ge (tgt := 365) dL_law_82 rfl (fun q1 => absurd q1 (by exact Int32.not_le.mpr K4)) (fun _ => ?_)
      refine rn_aload_n dL_law_85 rfl ?_
      refine rn_iload dL_law_86 rfl ?_
      refine rn_iconst (v := 0) dL_law_88 rfl ?_
      refine rn_callV dL_law_89 cv_L_64 k1 rfl h_SH rfl rfl (by decide) (by decide) rfl (Nat.le_of_ble_eq_true rfl) ?_
      refine rn_aload_n dL_law_92 rfl ?_
      refine rn_iload dL_law_93 rfl ?_
      refine rn_iconst (v := 1) dL_law_95 rfl ?_
      refine rn_callV dL_law_96 cv_L_64 k2 rfl h_SH rfl rfl (by decide) (by decide) rfl (Nat.le_of_ble_eq_true rfl) ?_
      refine rn_dcmpv dL_law_99 (dB_of (by omega) (by omega)) (dB_of (by omega) (by omega)) ?_
      refine rn_if_gt (tgt := 114) dL_law_100 rfl (fun q2 => absurd q2 (by exact fun z9 => by have := cmpI_gt.mp z9; omega)) (fun _ => ?_)
      refine rn_aload_n dL_law_103 rfl ?_
      refine rn_iload dL_law_104 rfl ?_
      refine rn_callV dL_law_106 cv_L_68 k3 rfl h_SH rfl rfl (by decide) (by decide) rfl (Nat.le_of_ble_eq_true rfl) ?_
      refine rn_dcon0 dL_law_109 ?_
      refine rn_dcmpv dL_law_110 (dB_of (by omega) (by omega)) dB_0 ?_
      refine rn_if_ge (tgt := 116) dL_law_111 rfl (fun _ => ?_) (fun q3 => absurd (by exact cmpI_ge.mpr (by omega)) q3)
      refine rn_aload_n dL_law_116 rfl ?_
      refine rn_iload dL_law_117 rfl ?_
      refine rnX_aald (RWs_app hR) (by omega) (by decide) dL_law_119 ?_
      refine rn_iconst (v := nI 0) dL_law_120 (by decide) ?_
      refine rnE_iald dL_law_121 e1a (vp_in_nI (by decide) (by decide)) ?_
      rw [nI_clamp (by decide)]
      refine rn_topi (y := kd Q.X i) e2a ?_
      refine rn_bipush (v := 6) dL_law_122 rfl ?_
      refine rn_icmp_lt (tgt := 131) dL_law_124 rfl (fun _ => ?_) (fun q4 => absurd (by exact hkd) q4)
      refine rn_iconst (v := 0) dL_law_131 rfl ?_
      refine rn_topi (y := bI (enB Q.X i)) (by rw [he]; rfl) ?_
      refine rn_istore dL_law_132 (by decide) rfl ?_
      refine rn_iconst (v := nI 0) dL_law_134 (by decide) ?_
      refine rn_istore dL_law_135 (by decide) rfl ?_
      exact rn_subg rfl B137
end LP
