/-! the law's chip, 6 -/
section CH2
variable {l : Launch} {D : va_G} {ad : Nat → Nat} {tc : Nat → ClassId} {L : Nat} {xs : Nat → Int32} {S : jS} {E : List j_C} {s sF k : Nat} {x K : Int32}
theorem mkF_0 : mkF 0 = fun _ => none := funext fun i => if_neg (Nat.not_lt_zero i)
theorem rnL_anew {M : j_M} {d lo pc idx : Nat} {lv : j_L} {st : List Value} {h' : j_H} {r : Option Value} (hd : decode M.2.1 pc = .ok (.anewarray idx, 3)) (hw : Cond.classLink M.1.cls idx "[I" ∈ j_all)
    (kk : Rn l D ad tc L xs M d lo (pc + 3) lv (.ref 85 :: st) (wd S [mdC 0], s + 11) r h') : Rn l D ad tc L xs M d lo pc lv (.int (nI 11) :: st) (wd S [], s) r h' := by
  refine rn_anewA (N := 11) hd hw (by decide) (by decide) (by decide) ?_
  show Rn l D ad tc L xs M d lo (pc + 3) lv (.ref ((wd S []).length + 1) :: st) (wd S [] ++ [.inl (8, 11, .inr (.inr (.inr (.inr (fun _ => none)))))], s + 11) r h'
  rw [wd_app, wd_len, ← mkF_0]
  exact kk
theorem ch_105 (hL : L < 1000) {p q u : Nat} (h : CI S 0 0 1 2) (h0 : sI S (0 + 6) 0 = nI p ∧ sI S (0 + 6) 1 = nI q ∧ sI S (0 + 6) 2 = nI u) (hp : p ≤ 40) (hq : q ≤ 40) (hu : u ≤ 20) (h8 : kd S 0 ≠ 8) (hs : s + 187 = sF) : Gc l D ad tc L xs sF 105 [(4, .int (nI 7)), (3, .int (nI 11)), (2, .int (nI 3)), (1, .ref 0), (0, .ref 1)] [] (wd S [], s) := by
  have := bel_lt (v := (celV L xs (3 + 7))) (n := 3) (by decide)
  have := bel_lt (v := (celV L xs (3 + 8))) (n := 21) (by decide)
  obtain ⟨S1, c1, c2, c3⟩ := k_divide (l := l) (D := D) (ad := ad) (tc := tc) (L := L) (xs := xs) (E := []) (sl := s) (c := 0) (x := 2 + (bel (celV L xs (3 + 7)) 3)) (y := (bel (celV L xs (3 + 8)) 21)) h (by decide) (by decide) (by omega) (by omega) h0 hp hq hu
  refine Gc.of (fun r h' z => ?_) (ch_loop hL 11 0 (s + 11) S1 [mdC 0] (by decide) (by omega) c1 ⟨rfl, fun i hi => absurd hi (Nat.not_lt_zero i)⟩ rfl (by rw [(c2 0 (by decide)).1]; exact h8))
  refine rn_aload_n dL_chip_105 rfl ?_
  refine rn_iconst (v := nI 0) dL_chip_106 (by decide) ?_
  refine rn_iconst (v := nI 2) dL_chip_107 (by decide) ?_
  refine rn_aload_n dL_chip_108 rfl ?_
  refine rn_iload_n dL_chip_109 rfl ?_
  refine rn_bipush (v := nI 7) dL_chip_110 (by decide) ?_
  refine rn_iadd dL_chip_112 ?_
  refine rn_topi (nI_add _ _) ?_
  refine rn_callS dL_chip_113 cs_L_9 (c_L_cell hL (by omega)) rfl (by decide) (by decide) rfl (Nat.le_of_ble_eq_true rfl) ?_
  refine rn_iconst (v := nI 3) dL_chip_116 (by decide) ?_
  refine rn_callS dL_chip_117 cs_L_15 (c_L_below (by decide) (by decide)) rfl (by decide) (by decide) rfl (Nat.le_of_ble_eq_true rfl) ?_
  refine rn_iadd dL_chip_120 ?_
  refine rn_topi (nI_add _ _) ?_
  refine rn_aload_n dL_chip_121 rfl ?_
  refine rn_iload_n dL_chip_122 rfl ?_
  refine rn_bipush (v := nI 8) dL_chip_123 (by decide) ?_
  refine rn_iadd dL_chip_125 ?_
  refine rn_topi (nI_add _ _) ?_
  refine rn_callS dL_chip_126 cs_L_9 (c_L_cell hL (by omega)) rfl (by decide) (by decide) rfl (Nat.le_of_ble_eq_true rfl) ?_
  refine rn_bipush (v := nI 21) dL_chip_129 (by decide) ?_
  refine rn_callS dL_chip_131 cs_L_15 (c_L_below (by decide) (by decide)) rfl (by decide) (by decide) rfl (Nat.le_of_ble_eq_true rfl) ?_
  refine rn_callV dL_chip_134 cv_L_25 c3 rfl h_SH rfl rfl (by decide) (by decide) rfl (Nat.le_of_ble_eq_true rfl) ?_
  refine rn_pop dL_chip_137 rfl ?_
  refine rn_iload_n dL_chip_138 rfl ?_
  refine rnL_anew dL_chip_139 wd_555 ?_
  refine rn_astore dL_chip_142 (by decide) rfl ?_
  refine rn_iconst (v := nI 0) dL_chip_144 (by decide) ?_
  refine rn_istore dL_chip_145 (by decide) rfl ?_
  exact rn_subg rfl z
theorem Grid_s0 : ∀ j, j < 7 → Grid s0 j := by
  intro j hj
  have z : ∀ a, 50 ≤ a → sD s0 a = fun _ => dv 0 := fun a ha => by
    funext f
    show (if a < 10 then _ else _) = _
    rw [if_neg (by omega), if_neg (by omega), ← dv_0]
    rfl
  exact Grid_i (t := (fun _ => 0, fun _ => 0, fun _ => 0, fun _ => 0)) ⟨z _ (by omega), z _ (by omega), z _ (by omega), z _ (by omega)⟩ ⟨fun x => by show (0 : Int) ≤ 0 ∧ (0 : Int) ≤ _; omega, fun x => by show (-20000000 : Int) ≤ 0 ∧ (0 : Int) ≤ 20000000; omega, fun x => by show (-20000000 : Int) ≤ 0 ∧ (0 : Int) ≤ 409595904; omega, fun x => by show (0 : Int) ≤ 0 ∧ (0 : Int) ≤ 400000; omega⟩
theorem CI_0 : CI s0 0 0 1 0 := ⟨T_0, rfl, Grid_s0⟩
theorem ch_0 (hL : L < 1000) (hs : s + 187 = sF) : Gc l D ad tc L xs sF 0 [(4, .int (nI 7)), (3, .int (nI 11)), (2, .int (nI 3)), (1, .ref 0), (0, .ref 1)] [] (wd s0 [], s) := by
  have := bel_lt (v := (celV L xs 3)) (n := 37) (by decide)
  have := bel_lt (v := (celV L xs (3 + 1))) (n := 41) (by decide)
  have := bel_lt (v := (celV L xs (3 + 2))) (n := 21) (by decide)
  have := bel_lt (v := (celV L xs (3 + 3))) (n := 37) (by decide)
  have := bel_lt (v := (celV L xs (3 + 4))) (n := 41) (by decide)
  have := bel_lt (v := (celV L xs (3 + 5))) (n := 21) (by decide)
  obtain ⟨S1, a1, a2, -, a4, a5⟩ := k_clock (l := l) (D := D) (ad := ad) (tc := tc) (L := L) (xs := xs) (E := []) (sl := s) (x := 4 + (bel (celV L xs 3) 37)) (y := (bel (celV L xs (3 + 1)) 41)) (z := (bel (celV L xs (3 + 2)) 21)) (g := 0) CI_0 (by decide) (by omega) (by omega) (by omega) (Or.inl rfl)
  by_cases hb : (bel (celV L xs (3 + 6)) 3) = 0
  · obtain ⟨S2, b1, b2, b3, -, b5⟩ := k_clock (l := l) (D := D) (ad := ad) (tc := tc) (L := L) (xs := xs) (E := []) (sl := s) (x := 4 + (bel (celV L xs (3 + 3)) 37)) (y := (bel (celV L xs (3 + 4)) 41)) (z := (bel (celV L xs (3 + 5)) 21)) (g := 1) a1 (by decide) (by omega) (by omega) (by omega) (Or.inr rfl)
    refine Gc.of (fun r h' z => ?_) (ch_105 hL b1 ⟨(b3 0 0 (by decide)).trans a4.1, (b3 0 1 (by decide)).trans a4.2.1, (b3 0 2 (by decide)).trans a4.2.2⟩ (by omega) (by omega) (by omega) (by rw [(b2 0 (by decide)).1, (a2 0 (by decide)).1]; decide) hs)
    refine rn_aload_n dL_chip_0 rfl ?_
    refine rn_iconst (v := nI 4) dL_chip_1 (by decide) ?_
    refine rn_aload_n dL_chip_2 rfl ?_
    refine rn_iload_n dL_chip_3 rfl ?_
    refine rn_callS dL_chip_4 cs_L_9 (c_L_cell hL (by omega)) rfl (by decide) (by decide) rfl (Nat.le_of_ble_eq_true rfl) ?_
    refine rn_bipush (v := nI 37) dL_chip_7 (by decide) ?_
    refine rn_callS dL_chip_9 cs_L_15 (c_L_below (by decide) (by decide)) rfl (by decide) (by decide) rfl (Nat.le_of_ble_eq_true rfl) ?_
    refine rn_iadd dL_chip_12 ?_
    refine rn_topi (nI_add _ _) ?_
    refine rn_aload_n dL_chip_13 rfl ?_
    refine rn_iload_n dL_chip_14 rfl ?_
    refine rn_iconst (v := nI 1) dL_chip_15 (by decide) ?_
    refine rn_iadd dL_chip_16 ?_
    refine rn_topi (nI_add _ _) ?_
    refine rn_callS dL_chip_17 cs_L_9 (c_L_cell hL (by omega)) rfl (by decide) (by decide) rfl (Nat.le_of_ble_eq_true rfl) ?_
    refine rn_bipush (v := nI 41) dL_chip_20 (by decide) ?_
    refine rn_callS dL_chip_22 cs_L_15 (c_L_below (by decide) (by decide)) rfl (by decide) (by decide) rfl (Nat.le_of_ble_eq_true rfl) ?_
    refine rn_aload_n dL_chip_25 rfl ?_
    refine rn_iload_n dL_chip_26 rfl ?_
    refine rn_iconst (v := nI 2) dL_chip_27 (by decide) ?_
    refine rn_iadd dL_chip_28 ?_
    refine rn_topi (nI_add _ _) ?_
    refine rn_callS dL_chip_29 cs_L_9 (c_L_cell hL (by omega)) rfl (by decide) (by decide) rfl (Nat.le_of_ble_eq_true rfl) ?_
    refine rn_bipush (v := nI 21) dL_chip_32 (by decide) ?_
    refine rn_callS dL_chip_34 cs_L_15 (c_L_below (by decide) (by decide)) rfl (by decide) (by decide) rfl (Nat.le_of_ble_eq_true rfl) ?_
    refine rn_iconst (v := 0) dL_chip_37 rfl ?_
    refine rn_callV dL_chip_38 cv_L_19 a5 rfl h_SH rfl rfl (by decide) (by decide) rfl (Nat.le_of_ble_eq_true rfl) ?_
    refine rn_pop dL_chip_41 rfl ?_
    refine rn_aload_n dL_chip_42 rfl ?_
    refine rn_iconst (v := nI 4) dL_chip_43 (by decide) ?_
    refine rn_aload_n dL_chip_44 rfl ?_
    refine rn_iload_n dL_chip_45 rfl ?_
    refine rn_iconst (v := nI 3) dL_chip_46 (by decide) ?_
    refine rn_iadd dL_chip_47 ?_
    refine rn_topi (nI_add _ _) ?_
    refine rn_callS dL_chip_48 cs_L_9 (c_L_cell hL (by omega)) rfl (by decide) (by decide) rfl (Nat.le_of_ble_eq_true rfl) ?_
    refine rn_bipush (v := nI 37) dL_chip_51 (by decide) ?_
    refine rn_callS dL_chip_53 cs_L_15 (c_L_below (by decide) (by decide)) rfl (by decide) (by decide) rfl (Nat.le_of_ble_eq_true rfl) ?_
    refine rn_iadd dL_chip_56 ?_
    refine rn_topi (nI_add _ _) ?_
    refine rn_aload_n dL_chip_57 rfl ?_
    refine rn_iload_n dL_chip_58 rfl ?_
    refine rn_iconst (v := nI 4) dL_chip_59 (by decide) ?_
    refine rn_iadd dL_chip_60 ?_
    refine rn_topi (nI_add _ _) ?_
    refine rn_callS dL_chip_61 cs_L_9 (c_L_cell hL (by omega)) rfl (by decide) (by decide) rfl (Nat.le_of_ble_eq_true rfl) ?_
    refine rn_bipush (v := nI 41) dL_chip_64 (by decide) ?_
    refine rn_callS dL_chip_66 cs_L_15 (c_L_below (by decide) (by decide)) rfl (by decide) (by decide) rfl (Nat.le_of_ble_eq_true rfl) ?_
    refine rn_aload_n dL_chip_69 rfl ?_
    refine rn_iload_n dL_chip_70 rfl ?_
    refine rn_iconst (v := nI 5) dL_chip_71 (by decide) ?_
    refine rn_iadd dL_chip_72 ?_
    refine rn_topi (nI_add _ _) ?_
    refine rn_callS dL_chip_73 cs_L_9 (c_L_cell hL (by omega)) rfl (by decide) (by decide) rfl (Nat.le_of_ble_eq_true rfl) ?_
    refine rn_bipush (v := nI 21) dL_chip_76 (by decide) ?_
    refine rn_callS dL_chip_78 cs_L_15 (c_L_below (by decide) (by decide)) rfl (by decide) (by decide) rfl (Nat.le_of_ble_eq_true rfl) ?_
    refine rn_aload_n dL_chip_81 rfl ?_
    refine rn_iload_n dL_chip_82 rfl ?_
    refine rn_bipush (v := nI 6) dL_chip_83 (by decide) ?_
    refine rn_iadd dL_chip_85 ?_
    refine rn_topi (nI_add _ _) ?_
    refine rn_callS dL_chip_86 cs_L_9 (c_L_cell hL (by omega)) rfl (by decide) (by decide) rfl (Nat.le_of_ble_eq_true rfl) ?_
    refine rn_iconst (v := nI 3) dL_chip_89 (by decide) ?_
    refine rn_callS dL_chip_90 cs_L_15 (c_L_below (by decide) (by decide)) rfl (by decide) (by decide) rfl (Nat.le_of_ble_eq_true rfl) ?_
    rw [hb]
    refine rn_if_ne (tgt := 100) dL_chip_93 rfl (fun q1 => absurd q1 (by exact fun z9 => z9 nI_0)) (fun _ => ?_)
    refine rn_iconst (v := 1) dL_chip_96 rfl ?_
    refine rn_goto (tgt := 101) dL_chip_97 rfl ?_
    refine rn_callV dL_chip_101 cv_L_19 b5 rfl h_SH rfl rfl (by decide) (by decide) rfl (Nat.le_of_ble_eq_true rfl) ?_
    refine rn_pop dL_chip_104 rfl ?_
    exact rn_subg rfl z
  · obtain ⟨S2, b1, b2, b3, -, b5⟩ := k_clock (l := l) (D := D) (ad := ad) (tc := tc) (L := L) (xs := xs) (E := []) (sl := s) (x := 4 + (bel (celV L xs (3 + 3)) 37)) (y := (bel (celV L xs (3 + 4)) 41)) (z := (bel (celV L xs (3 + 5)) 21)) (g := 0) a1 (by decide) (by omega) (by omega) (by omega) (Or.inl rfl)
    refine Gc.of (fun r h' z => ?_) (ch_105 hL b1 ⟨(b3 0 0 (by decide)).trans a4.1, (b3 0 1 (by decide)).trans a4.2.1, (b3 0 2 (by decide)).trans a4.2.2⟩ (by omega) (by omega) (by omega) (by rw [(b2 0 (by decide)).1, (a2 0 (by decide)).1]; decide) hs)
    refine rn_aload_n dL_chip_0 rfl ?_
    refine rn_iconst (v := nI 4) dL_chip_1 (by decide) ?_
    refine rn_aload_n dL_chip_2 rfl ?_
    refine rn_iload_n dL_chip_3 rfl ?_
    refine rn_callS dL_chip_4 cs_L_9 (c_L_cell hL (by omega)) rfl (by decide) (by decide) rfl (Nat.le_of_ble_eq_true rfl) ?_
    refine rn_bipush (v := nI 37) dL_chip_7 (by decide) ?_
    refine rn_callS dL_chip_9 cs_L_15 (c_L_below (by decide) (by decide)) rfl (by decide) (by decide) rfl (Nat.le_of_ble_eq_true rfl) ?_
    refine rn_iadd dL_chip_12 ?_
    refine rn_topi (nI_add _ _) ?_
    refine rn_aload_n dL_chip_13 rfl ?_
    refine rn_iload_n dL_chip_14 rfl ?_
    refine rn_iconst (v := nI 1) dL_chip_15 (by decide) ?_
    refine rn_iadd dL_chip_16 ?_
    refine rn_topi (nI_add _ _) ?_
    refine rn_callS dL_chip_17 cs_L_9 (c_L_cell hL (by omega)) rfl (by decide) (by decide) rfl (Nat.le_of_ble_eq_true rfl) ?_
    refine rn_bipush (v := nI 41) dL_chip_20 (by decide) ?_
    refine rn_callS dL_chip_22 cs_L_15 (c_L_below (by decide) (by decide)) rfl (by decide) (by decide) rfl (Nat.le_of_ble_eq_true rfl) ?_
    refine rn_aload_n dL_chip_25 rfl ?_
    refine rn_iload_n dL_chip_26 rfl ?_
    refine rn_iconst (v := nI 2) dL_chip_27 (by decide) ?_
    refine rn_iadd dL_chip_28 ?_
    refine rn_topi (nI_add _ _) ?_
    refine rn_callS dL_chip_29 cs_L_9 (c_L_cell hL (by omega)) rfl (by decide) (by decide) rfl (Nat.le_of_ble_eq_true rfl) ?_
    refine rn_bipush (v := nI 21) dL_chip_32 (by decide) ?_
    refine rn_callS dL_chip_34 cs_L_15 (c_L_below (by decide) (by decide)) rfl (by decide) (by decide) rfl (Nat.le_of_ble_eq_true rfl) ?_
    refine rn_iconst (v := 0) dL_chip_37 rfl ?_
    refine rn_callV dL_chip_38 cv_L_19 a5 rfl h_SH rfl rfl (by decide) (by decide) rfl (Nat.le_of_ble_eq_true rfl) ?_
    refine rn_pop dL_chip_41 rfl ?_
    refine rn_aload_n dL_chip_42 rfl ?_
    refine rn_iconst (v := nI 4) dL_chip_43 (by decide) ?_
    refine rn_aload_n dL_chip_44 rfl ?_
    refine rn_iload_n dL_chip_45 rfl ?_
    refine rn_iconst (v := nI 3) dL_chip_46 (by decide) ?_
    refine rn_iadd dL_chip_47 ?_
    refine rn_topi (nI_add _ _) ?_
    refine rn_callS dL_chip_48 cs_L_9 (c_L_cell hL (by omega)) rfl (by decide) (by decide) rfl (Nat.le_of_ble_eq_true rfl) ?_
    refine rn_bipush (v := nI 37) dL_chip_51 (by decide) ?_
    refine rn_callS dL_chip_53 cs_L_15 (c_L_below (by decide) (by decide)) rfl (by decide) (by decide) rfl (Nat.le_of_ble_eq_true rfl) ?_
    refine rn_iadd dL_chip_56 ?_
    refine rn_topi (nI_add _ _) ?_
    refine rn_aload_n dL_chip_57 rfl ?_
    refine rn_iload_n dL_chip_58 rfl ?_
    refine rn_iconst (v := nI 4) dL_chip_59 (by decide) ?_
    refine rn_iadd dL_chip_60 ?_
    refine rn_topi (nI_add _ _) ?_
    refine rn_callS dL_chip_61 cs_L_9 (c_L_cell hL (by omega)) rfl (by decide) (by decide) rfl (Nat.le_of_ble_eq_true rfl) ?_
    refine rn_bipush (v := nI 41) dL_chip_64 (by decide) ?_
    refine rn_callS dL_chip_66 cs_L_15 (c_L_below (by decide) (by decide)) rfl (by decide) (by decide) rfl (Nat.le_of_ble_eq_true rfl) ?_
    refine rn_aload_n dL_chip_69 rfl ?_
    refine rn_iload_n dL_chip_70 rfl ?_
    refine rn_iconst (v := nI 5) dL_chip_71 (by decide) ?_
    refine rn_iadd dL_chip_72 ?_
    refine rn_topi (nI_add _ _) ?_
    refine rn_callS dL_chip_73 cs_L_9 (c_L_cell hL (by omega)) rfl (by decide) (by decide) rfl (Nat.le_of_ble_eq_true rfl) ?_
    refine rn_bipush (v := nI 21) dL_chip_76 (by decide) ?_
    refine rn_callS dL_chip_78 cs_L_15 (c_L_below (by decide) (by decide)) rfl (by decide) (by decide) rfl (Nat.le_of_ble_eq_true rfl) ?_
    refine rn_aload_n dL_chip_81 rfl ?_
    refine rn_iload_n dL_chip_82 rfl ?_
    refine rn_bipush (v := nI 6) dL_chip_83 (by decide) ?_
    refine rn_iadd dL_chip_85 ?_
    refine rn_topi (nI_add _ _) ?_
    refine rn_callS dL_chip_86 cs_L_9 (c_L_cell hL (by omega)) rfl (by decide) (by decide) rfl (Nat.le_of_ble_eq_true rfl) ?_
    refine rn_iconst (v := nI 3) dL_chip_89 (by decide) ?_
    refine rn_callS dL_chip_90 cs_L_15 (c_L_below (by decide) (by decide)) rfl (by decide) (by decide) rfl (Nat.le_of_ble_eq_true rfl) ?_
    refine rn_if_ne (tgt := 100) dL_chip_93 rfl (fun _ => ?_) (fun q1 => absurd q1 (by exact nI_ne0 (by omega) (by have := bel_lt (v := (celV L xs (3 + 6))) (n := 3) (by decide); omega)))
    refine rn_iconst (v := 0) dL_chip_100 rfl ?_
    refine rn_callV dL_chip_101 cv_L_19 b5 rfl h_SH rfl rfl (by decide) (by decide) rfl (Nat.le_of_ble_eq_true rfl) ?_
    refine rn_pop dL_chip_104 rfl ?_
    exact rn_subg rfl z
theorem c_L_chip (hL : L < 1000) : ∃ S' E', (CI S' 11 0 1 3 ∧ RWs S' E' 11 ∧ E'.length = 23) ∧ Cn l D ad tc L xs mL_chip 6 130 [.ref 1, .ref 0, .int (nI 3), .int (nI 11), .int (nI 7)] (wd s0 [], s) (some (.ref 85)) (wd S' E', s + 187) := by
  obtain ⟨S', E', q, z⟩ := ch_0 (l := l) (D := D) (ad := ad) (tc := tc) (xs := xs) (s := s) hL rfl
  refine ⟨S', E', q, cn_of (lv0 := [(0, .ref 1), (1, .ref 0), (2, .int (nI 3)), (3, .int (nI 11)), (4, .int (nI 7))]) (by decide +kernel) ⟨_, rfl, Or.inr ⟨_, rfl⟩⟩ (fun _ => by simp [lg_sl, j_v, Value.category]) (fun _ => rfl) ?_⟩
  exact rn_subg rfl z
end CH2
