/-! the law's isSound -/
theorem cmpI_ge {a b : Int} : 0 ≤ cmpI a b ↔ b ≤ a := by
  rw [← Int32.not_lt, cmpI_lt]
  omega
section SO
variable {l : Launch} {D : va_G} {ad : Nat → Nat} {tc : Nat → ClassId} {L : Nat} {xs : Nat → Int32} {S : jS} {E : List j_C} {sl : Nat} {Q : QC} {s i c : Nat}
set_option maxRecDepth 20000 in
theorem so_0 (h : Inq Q S) (hs : s < Q.n) (hi : i < Q.n) (hc : c < Q.nc) (hk : stB Q.X s = true) (K : ∀ S, Inq Q S → ∃ S', Inq Q S' ∧ Rn l D ad tc L xs mL_isSound 6 155 3 [(5, .int 1), (4, .int (bI (enB Q.X i))), (3, .int (nI c)), (2, .int (nI i)), (1, .int (nI s)), (0, .ref 1)] [] (wd S E, sl) (some (.int 1)) (wd S' E, sl)) : ∃ S', Inq Q S' ∧ Rn l D ad tc L xs mL_isSound 6 155 3 [(5, .int 0), (4, .int (bI (enB Q.X i))), (3, .int (nI c)), (2, .int (nI i)), (1, .int (nI s)), (0, .ref 1)] [] (wd S E, sl) (some (.int 1)) (wd S' E, sl) := by
  have hn := h.1.1.1.2
  have hc3 : c < 3 := by have := h.1.1.2.2.1.2.2; omega
  obtain ⟨S1, h1, k1⟩ := q_arrival_r (l := l) (D := D) (ad := ad) (tc := tc) (L := L) (xs := xs) (E := E) (sl := sl) (s := s) (i := i) (c := c) (b := true) h hs hi hc hk
  obtain ⟨S2, h2, k2⟩ := q_arrival_r (l := l) (D := D) (ad := ad) (tc := tc) (L := L) (xs := xs) (E := E) (sl := sl) (s := s) (i := i) (c := c) (b := false) h1 hs hi hc hk
  obtain ⟨S', h', K⟩ := K S2 h2
  have le := Q_le (c := c) (s := s) (i := i) (f := 0) h hc3 (by omega) hi (by decide)
  have at1 := (Q_ar (c := c) (s := s) (i := i) (f := 0) (b := true) h hc3).2
  have at2 := (Q_ar (c := c) (s := s) (i := i) (f := 0) (b := false) h hc3).2
  refine ⟨S', h', ?_⟩
  by_cases hb : bitR (sA Q.X 39) s i = true
  · have at1 := at1.1 hb
    have at2 := at2.1 hb
    refine rn_iload dL_isSound_3 rfl ?_
    refine rn_iconst (v := 2) dL_isSound_5 rfl ?_
    refine rn_icmp_ge (tgt := 92) dL_isSound_6 rfl (fun q => absurd q (by decide)) (fun _ => ?_)
    refine rn_aload_n dL_isSound_9 rfl ?_
    refine rn_iload_n dL_isSound_10 rfl ?_
    refine rn_iload_n dL_isSound_11 rfl ?_
    refine rn_iload_n dL_isSound_12 rfl ?_
    refine rn_iconst (v := 1) dL_isSound_13 rfl ?_
    refine rn_topi (y := bI true) rfl ?_
    refine rn_iload dL_isSound_14 rfl ?_
    refine rn_if_ne (tgt := 23) dL_isSound_16 rfl (fun q => absurd (by decide) q) (fun _ => ?_)
    refine rn_iconst (v := 1) dL_isSound_19 rfl ?_
    refine rn_goto (tgt := 24) dL_isSound_20 rfl ?_
    refine rn_callV dL_isSound_24 cv_L_118 k1 rfl h_SH rfl rfl (by decide) (by decide) rfl (Nat.le_of_ble_eq_true rfl) ?_
    refine rn_dstore dL_isSound_27 (by decide) rfl ?_
    refine rn_aload_n dL_isSound_29 rfl ?_
    refine rn_iload_n dL_isSound_30 rfl ?_
    refine rn_iload_n dL_isSound_31 rfl ?_
    refine rn_iload_n dL_isSound_32 rfl ?_
    refine rn_iconst (v := 0) dL_isSound_33 rfl ?_
    refine rn_topi (y := bI false) rfl ?_
    refine rn_iload dL_isSound_34 rfl ?_
    refine rn_if_ne (tgt := 43) dL_isSound_36 rfl (fun q => absurd (by decide) q) (fun _ => ?_)
    refine rn_iconst (v := 1) dL_isSound_39 rfl ?_
    refine rn_goto (tgt := 44) dL_isSound_40 rfl ?_
    refine rn_callV dL_isSound_44 cv_L_118 k2 rfl h_SH rfl rfl (by decide) (by decide) rfl (Nat.le_of_ble_eq_true rfl) ?_
    refine rn_dstore dL_isSound_47 (by decide) rfl ?_
    refine rn_dload dL_isSound_49 rfl ?_
    refine rn_dload dL_isSound_51 rfl ?_
    refine rn_dcmpv dL_isSound_53 (Q_ar_dB h hc3) (Q_ar_dB h hc3) ?_
    refine rn_if_gt (tgt := 84) dL_isSound_54 rfl (fun q1 => absurd q1 (by exact fun z9 => by have := cmpI_gt.mp z9; omega)) (fun _ => ?_)
    refine rn_dload dL_isSound_57 rfl ?_
    refine rn_dcon0 dL_isSound_59 ?_
    refine rn_dcmpv dL_isSound_60 (Q_ar_dB h hc3) dB_0 ?_
    refine rn_if_ge (tgt := 68) dL_isSound_61 rfl (fun _ => ?_) (fun q2 => absurd (by exact cmpI_ge.mpr (by omega)) q2)
    refine rn_iconst (v := 0) dL_isSound_68 rfl ?_
    refine rn_dload dL_isSound_69 rfl ?_
    refine rn_dcon0 dL_isSound_71 ?_
    refine rn_dcmpv dL_isSound_72 (Q_ar_dB h hc3) dB_0 ?_
    refine rn_if_ge (tgt := 80) dL_isSound_73 rfl (fun _ => ?_) (fun q3 => absurd (by exact cmpI_ge.mpr (by omega)) q3)
    refine rn_iconst (v := 0) dL_isSound_80 rfl ?_
    refine rn_icmp_eq (tgt := 86) dL_isSound_81 rfl (fun _ => ?_) (fun q => absurd (by decide) q)
    refine rn_iinc (v := 1) dL_isSound_86 rfl (by decide) (by decide) rfl ?_
    refine rn_goto (tgt := 3) dL_isSound_89 rfl ?_
    exact rn_subg rfl K
  · have at1 := at1.2 hb
    have at2 := at2.2 hb
    refine rn_iload dL_isSound_3 rfl ?_
    refine rn_iconst (v := 2) dL_isSound_5 rfl ?_
    refine rn_icmp_ge (tgt := 92) dL_isSound_6 rfl (fun q => absurd q (by decide)) (fun _ => ?_)
    refine rn_aload_n dL_isSound_9 rfl ?_
    refine rn_iload_n dL_isSound_10 rfl ?_
    refine rn_iload_n dL_isSound_11 rfl ?_
    refine rn_iload_n dL_isSound_12 rfl ?_
    refine rn_iconst (v := 1) dL_isSound_13 rfl ?_
    refine rn_topi (y := bI true) rfl ?_
    refine rn_iload dL_isSound_14 rfl ?_
    refine rn_if_ne (tgt := 23) dL_isSound_16 rfl (fun q => absurd (by decide) q) (fun _ => ?_)
    refine rn_iconst (v := 1) dL_isSound_19 rfl ?_
    refine rn_goto (tgt := 24) dL_isSound_20 rfl ?_
    refine rn_callV dL_isSound_24 cv_L_118 k1 rfl h_SH rfl rfl (by decide) (by decide) rfl (Nat.le_of_ble_eq_true rfl) ?_
    refine rn_dstore dL_isSound_27 (by decide) rfl ?_
    refine rn_aload_n dL_isSound_29 rfl ?_
    refine rn_iload_n dL_isSound_30 rfl ?_
    refine rn_iload_n dL_isSound_31 rfl ?_
    refine rn_iload_n dL_isSound_32 rfl ?_
    refine rn_iconst (v := 0) dL_isSound_33 rfl ?_
    refine rn_topi (y := bI false) rfl ?_
    refine rn_iload dL_isSound_34 rfl ?_
    refine rn_if_ne (tgt := 43) dL_isSound_36 rfl (fun q => absurd (by decide) q) (fun _ => ?_)
    refine rn_iconst (v := 1) dL_isSound_39 rfl ?_
    refine rn_goto (tgt := 44) dL_isSound_40 rfl ?_
    refine rn_callV dL_isSound_44 cv_L_118 k2 rfl h_SH rfl rfl (by decide) (by decide) rfl (Nat.le_of_ble_eq_true rfl) ?_
    refine rn_dstore dL_isSound_47 (by decide) rfl ?_
    refine rn_dload dL_isSound_49 rfl ?_
    refine rn_dload dL_isSound_51 rfl ?_
    refine rn_dcmpv dL_isSound_53 (Q_ar_dB h hc3) (Q_ar_dB h hc3) ?_
    refine rn_if_gt (tgt := 84) dL_isSound_54 rfl (fun q1 => absurd q1 (by exact fun z9 => by have := cmpI_gt.mp z9; omega)) (fun _ => ?_)
    refine rn_dload dL_isSound_57 rfl ?_
    refine rn_dcon0 dL_isSound_59 ?_
    refine rn_dcmpv dL_isSound_60 (Q_ar_dB h hc3) dB_0 ?_
    refine rn_if_ge (tgt := 68) dL_isSound_61 rfl (fun q2 => absurd q2 (by exact fun z9 => by have := cmpI_ge.mp z9; omega)) (fun _ => ?_)
    refine rn_iconst (v := 1) dL_isSound_64 rfl ?_
    refine rn_goto (tgt := 69) dL_isSound_65 rfl ?_
    refine rn_dload dL_isSound_69 rfl ?_
    refine rn_dcon0 dL_isSound_71 ?_
    refine rn_dcmpv dL_isSound_72 (Q_ar_dB h hc3) dB_0 ?_
    refine rn_if_ge (tgt := 80) dL_isSound_73 rfl (fun q3 => absurd q3 (by exact fun z9 => by have := cmpI_ge.mp z9; omega)) (fun _ => ?_)
    refine rn_iconst (v := 1) dL_isSound_76 rfl ?_
    refine rn_goto (tgt := 81) dL_isSound_77 rfl ?_
    refine rn_icmp_eq (tgt := 86) dL_isSound_81 rfl (fun _ => ?_) (fun q => absurd (by decide) q)
    refine rn_iinc (v := 1) dL_isSound_86 rfl (by decide) (by decide) rfl ?_
    refine rn_goto (tgt := 3) dL_isSound_89 rfl ?_
    exact rn_subg rfl K
set_option maxRecDepth 20000 in
theorem so_1 (h : Inq Q S) (hs : s < Q.n) (hi : i < Q.n) (hc : c < Q.nc) (hk : stB Q.X s = true) (K : ∀ S, Inq Q S → ∃ S', Inq Q S' ∧ Rn l D ad tc L xs mL_isSound 6 155 3 [(5, .int 2), (4, .int (bI (enB Q.X i))), (3, .int (nI c)), (2, .int (nI i)), (1, .int (nI s)), (0, .ref 1)] [] (wd S E, sl) (some (.int 1)) (wd S' E, sl)) : ∃ S', Inq Q S' ∧ Rn l D ad tc L xs mL_isSound 6 155 3 [(5, .int 1), (4, .int (bI (enB Q.X i))), (3, .int (nI c)), (2, .int (nI i)), (1, .int (nI s)), (0, .ref 1)] [] (wd S E, sl) (some (.int 1)) (wd S' E, sl) := by
  have hn := h.1.1.1.2
  have hc3 : c < 3 := by have := h.1.1.2.2.1.2.2; omega
  obtain ⟨S1, h1, k1⟩ := q_arrival_f (l := l) (D := D) (ad := ad) (tc := tc) (L := L) (xs := xs) (E := E) (sl := sl) (s := s) (i := i) (c := c) (b := true) h hs hi hc hk
  obtain ⟨S2, h2, k2⟩ := q_arrival_f (l := l) (D := D) (ad := ad) (tc := tc) (L := L) (xs := xs) (E := E) (sl := sl) (s := s) (i := i) (c := c) (b := false) h1 hs hi hc hk
  obtain ⟨S', h', K⟩ := K S2 h2
  have le := Q_le (c := c) (s := s) (i := i) (f := 1) h hc3 (by omega) hi (by decide)
  have at1 := (Q_ar (c := c) (s := s) (i := i) (f := 1) (b := true) h hc3).2
  have at2 := (Q_ar (c := c) (s := s) (i := i) (f := 1) (b := false) h hc3).2
  refine ⟨S', h', ?_⟩
  by_cases hb : bitR (sA Q.X 39) s i = true
  · have at1 := at1.1 hb
    have at2 := at2.1 hb
    refine rn_iload dL_isSound_3 rfl ?_
    refine rn_iconst (v := 2) dL_isSound_5 rfl ?_
    refine rn_icmp_ge (tgt := 92) dL_isSound_6 rfl (fun q => absurd q (by decide)) (fun _ => ?_)
    refine rn_aload_n dL_isSound_9 rfl ?_
    refine rn_iload_n dL_isSound_10 rfl ?_
    refine rn_iload_n dL_isSound_11 rfl ?_
    refine rn_iload_n dL_isSound_12 rfl ?_
    refine rn_iconst (v := 1) dL_isSound_13 rfl ?_
    refine rn_topi (y := bI true) rfl ?_
    refine rn_iload dL_isSound_14 rfl ?_
    refine rn_if_ne (tgt := 23) dL_isSound_16 rfl (fun _ => ?_) (fun q => absurd q (by decide))
    refine rn_iconst (v := 0) dL_isSound_23 rfl ?_
    refine rn_callV dL_isSound_24 cv_L_118 k1 rfl h_SH rfl rfl (by decide) (by decide) rfl (Nat.le_of_ble_eq_true rfl) ?_
    refine rn_dstore dL_isSound_27 (by decide) rfl ?_
    refine rn_aload_n dL_isSound_29 rfl ?_
    refine rn_iload_n dL_isSound_30 rfl ?_
    refine rn_iload_n dL_isSound_31 rfl ?_
    refine rn_iload_n dL_isSound_32 rfl ?_
    refine rn_iconst (v := 0) dL_isSound_33 rfl ?_
    refine rn_topi (y := bI false) rfl ?_
    refine rn_iload dL_isSound_34 rfl ?_
    refine rn_if_ne (tgt := 43) dL_isSound_36 rfl (fun _ => ?_) (fun q => absurd q (by decide))
    refine rn_iconst (v := 0) dL_isSound_43 rfl ?_
    refine rn_callV dL_isSound_44 cv_L_118 k2 rfl h_SH rfl rfl (by decide) (by decide) rfl (Nat.le_of_ble_eq_true rfl) ?_
    refine rn_dstore dL_isSound_47 (by decide) rfl ?_
    refine rn_dload dL_isSound_49 rfl ?_
    refine rn_dload dL_isSound_51 rfl ?_
    refine rn_dcmpv dL_isSound_53 (Q_ar_dB h hc3) (Q_ar_dB h hc3) ?_
    refine rn_if_gt (tgt := 84) dL_isSound_54 rfl (fun q1 => absurd q1 (by exact fun z9 => by have := cmpI_gt.mp z9; omega)) (fun _ => ?_)
    refine rn_dload dL_isSound_57 rfl ?_
    refine rn_dcon0 dL_isSound_59 ?_
    refine rn_dcmpv dL_isSound_60 (Q_ar_dB h hc3) dB_0 ?_
    refine rn_if_ge (tgt := 68) dL_isSound_61 rfl (fun _ => ?_) (fun q2 => absurd (by exact cmpI_ge.mpr (by omega)) q2)
    refine rn_iconst (v := 0) dL_isSound_68 rfl ?_
    refine rn_dload dL_isSound_69 rfl ?_
    refine rn_dcon0 dL_isSound_71 ?_
    refine rn_dcmpv dL_isSound_72 (Q_ar_dB h hc3) dB_0 ?_
    refine rn_if_ge (tgt := 80) dL_isSound_73 rfl (fun _ => ?_) (fun q3 => absurd (by exact cmpI_ge.mpr (by omega)) q3)
    refine rn_iconst (v := 0) dL_isSound_80 rfl ?_
    refine rn_icmp_eq (tgt := 86) dL_isSound_81 rfl (fun _ => ?_) (fun q => absurd (by decide) q)
    refine rn_iinc (v := 2) dL_isSound_86 rfl (by decide) (by decide) rfl ?_
    refine rn_goto (tgt := 3) dL_isSound_89 rfl ?_
    exact rn_subg rfl K
  · have at1 := at1.2 hb
    have at2 := at2.2 hb
    refine rn_iload dL_isSound_3 rfl ?_
    refine rn_iconst (v := 2) dL_isSound_5 rfl ?_
    refine rn_icmp_ge (tgt := 92) dL_isSound_6 rfl (fun q => absurd q (by decide)) (fun _ => ?_)
    refine rn_aload_n dL_isSound_9 rfl ?_
    refine rn_iload_n dL_isSound_10 rfl ?_
    refine rn_iload_n dL_isSound_11 rfl ?_
    refine rn_iload_n dL_isSound_12 rfl ?_
    refine rn_iconst (v := 1) dL_isSound_13 rfl ?_
    refine rn_topi (y := bI true) rfl ?_
    refine rn_iload dL_isSound_14 rfl ?_
    refine rn_if_ne (tgt := 23) dL_isSound_16 rfl (fun _ => ?_) (fun q => absurd q (by decide))
    refine rn_iconst (v := 0) dL_isSound_23 rfl ?_
    refine rn_callV dL_isSound_24 cv_L_118 k1 rfl h_SH rfl rfl (by decide) (by decide) rfl (Nat.le_of_ble_eq_true rfl) ?_
    refine rn_dstore dL_isSound_27 (by decide) rfl ?_
    refine rn_aload_n dL_isSound_29 rfl ?_
    refine rn_iload_n dL_isSound_30 rfl ?_
    refine rn_iload_n dL_isSound_31 rfl ?_
    refine rn_iload_n dL_isSound_32 rfl ?_
    refine rn_iconst (v := 0) dL_isSound_33 rfl ?_
    refine rn_topi (y := bI false) rfl ?_
    refine rn_iload dL_isSound_34 rfl ?_
    refine rn_if_ne (tgt := 43) dL_isSound_36 rfl (fun _ => ?_) (fun q => absurd q (by decide))
    refine rn_iconst (v := 0) dL_isSound_43 rfl ?_
    refine rn_callV dL_isSound_44 cv_L_118 k2 rfl h_SH rfl rfl (by decide) (by decide) rfl (Nat.le_of_ble_eq_true rfl) ?_
    refine rn_dstore dL_isSound_47 (by decide) rfl ?_
    refine rn_dload dL_isSound_49 rfl ?_
    refine rn_dload dL_isSound_51 rfl ?_
    refine rn_dcmpv dL_isSound_53 (Q_ar_dB h hc3) (Q_ar_dB h hc3) ?_
    refine rn_if_gt (tgt := 84) dL_isSound_54 rfl (fun q1 => absurd q1 (by exact fun z9 => by have := cmpI_gt.mp z9; omega)) (fun _ => ?_)
    refine rn_dload dL_isSound_57 rfl ?_
    refine rn_dcon0 dL_isSound_59 ?_
    refine rn_dcmpv dL_isSound_60 (Q_ar_dB h hc3) dB_0 ?_
    refine rn_if_ge (tgt := 68) dL_isSound_61 rfl (fun q2 => absurd q2 (by exact fun z9 => by have := cmpI_ge.mp z9; omega)) (fun _ => ?_)
    refine rn_iconst (v := 1) dL_isSound_64 rfl ?_
    refine rn_goto (tgt := 69) dL_isSound_65 rfl ?_
    refine rn_dload dL_isSound_69 rfl ?_
    refine rn_dcon0 dL_isSound_71 ?_
    refine rn_dcmpv dL_isSound_72 (Q_ar_dB h hc3) dB_0 ?_
    refine rn_if_ge (tgt := 80) dL_isSound_73 rfl (fun q3 => absurd q3 (by exact fun z9 => by have := cmpI_ge.mp z9; omega)) (fun _ => ?_)
    refine rn_iconst (v := 1) dL_isSound_76 rfl ?_
    refine rn_goto (tgt := 81) dL_isSound_77 rfl ?_
    refine rn_icmp_eq (tgt := 86) dL_isSound_81 rfl (fun _ => ?_) (fun q => absurd (by decide) q)
    refine rn_iinc (v := 2) dL_isSound_86 rfl (by decide) (by decide) rfl ?_
    refine rn_goto (tgt := 3) dL_isSound_89 rfl ?_
    exact rn_subg rfl K
set_option maxRecDepth 20000 in
theorem so_2 (h : Inq Q S) (hs : s < Q.n) (hi : i < Q.n) (hc : c < Q.nc) (hk : stB Q.X s = true) : ∃ S', Inq Q S' ∧ Rn l D ad tc L xs mL_isSound 6 155 3 [(5, .int 2), (4, .int (bI (enB Q.X i))), (3, .int (nI c)), (2, .int (nI i)), (1, .int (nI s)), (0, .ref 1)] [] (wd S E, sl) (some (.int 1)) (wd S' E, sl) := by
  have hn := h.1.1.1.2
  have hx := Inq_X h
  have hc3 : c < 3 := by have := h.1.1.2.2.1.2.2; omega
  have lo := Q_lo (c := c) (s := s) (e := i) (b := true) h hc3
  rcases (show enB Q.X i = false ∨ enB Q.X i = true by cases enB Q.X i; exact Or.inl rfl; exact Or.inr rfl) with he | he
  ·
    refine ⟨S, h, ?_⟩

    refine rn_iload dL_isSound_3 rfl ?_
    refine rn_iconst (v := 2) dL_isSound_5 rfl ?_
    refine rn_icmp_ge (tgt := 92) dL_isSound_6 rfl (fun _ => ?_) (fun q1 => absurd (by decide) q1)
    refine rn_iload dL_isSound_92 rfl ?_
    refine rn_topi (y := 0) (by rw [he]; rfl) ?_
    refine rn_if_eq (tgt := 121) dL_isSound_94 rfl (fun _ => ?_) (fun q2 => absurd (by rfl) q2)
    refine rn_iconst (v := 1) dL_isSound_121 rfl ?_
    refine rn_goto (tgt := 126) dL_isSound_122 rfl ?_
    exact rn_ret dL_isSound_126 trivial rfl
  ·
    rcases (hx.1.2.2.2.2.2.1 i hi).2.1 with hf | ⟨a, ha, hf⟩
    · have hnb : ¬ bitR (sA Q.X 40) s i = true := fun z => by
        obtain ⟨-, -, -, a, ha, hfa, -⟩ := ck_pair hx.1 hx.2 hi (by omega) z
        exact nI_ne1 (by omega) (hfa.symm.trans hf)
      have lo := lo.2 hnb
      obtain ⟨S', h', k3⟩ := q_left (l := l) (D := D) (ad := ad) (tc := tc) (L := L) (xs := xs) (E := E) (sl := sl) (s := s) (e := i) (c := c) (b := true) h hs hi hc hk he
      refine ⟨S', h', ?_⟩

      refine rn_iload dL_isSound_3 rfl ?_
      refine rn_iconst (v := 2) dL_isSound_5 rfl ?_
      refine rn_icmp_ge (tgt := 92) dL_isSound_6 rfl (fun _ => ?_) (fun q1 => absurd (by decide) q1)
      refine rn_iload dL_isSound_92 rfl ?_
      refine rn_topi (y := 1) (by rw [he]; rfl) ?_
      refine rn_if_eq (tgt := 121) dL_isSound_94 rfl (fun q2 => absurd q2 (by decide)) (fun _ => ?_)
      refine rn_aload_n dL_isSound_97 rfl ?_
      refine rn_iload_n dL_isSound_98 rfl ?_
      refine rn_iload_n dL_isSound_99 rfl ?_
      refine rn_callV dL_isSound_100 cv_L_122 (q_ways_0 (a := 0) h hs hi hk he hf) rfl h_SH rfl rfl (by decide) (by decide) rfl (Nat.le_of_ble_eq_true rfl) ?_
      refine rn_if_gt (tgt := 121) dL_isSound_103 rfl (fun q3 => absurd q3 (by decide)) (fun _ => ?_)
      refine rn_aload_n dL_isSound_106 rfl ?_
      refine rn_iload_n dL_isSound_107 rfl ?_
      refine rn_iload_n dL_isSound_108 rfl ?_
      refine rn_iload_n dL_isSound_109 rfl ?_
      refine rn_iconst (v := 1) dL_isSound_110 rfl ?_
      refine rn_topi (y := bI true) rfl ?_
      refine rn_callV dL_isSound_111 cv_L_99 k3 rfl h_SH rfl rfl (by decide) (by decide) rfl (Nat.le_of_ble_eq_true rfl) ?_
      refine rn_dcon (n := 0) (m := 409595904) dL_isSound_114 wd_595 (by decide +kernel) ?_
      refine rn_dcmpv dL_isSound_117 (dB_of (by omega) (by omega)) (dB_of (by omega) (by omega)) ?_
      refine rn_if_ne (tgt := 125) dL_isSound_118 rfl (fun q4 => absurd q4 (by exact fun z9 => z9 (cmpI_eq.mpr lo))) (fun _ => ?_)
      refine rn_iconst (v := 1) dL_isSound_121 rfl ?_
      refine rn_goto (tgt := 126) dL_isSound_122 rfl ?_
      exact rn_ret dL_isSound_126 trivial rfl
    · by_cases hw : 0 < sA Q.X 41 (s * 16 + a)
      · refine ⟨S, h, ?_⟩

        refine rn_iload dL_isSound_3 rfl ?_
        refine rn_iconst (v := 2) dL_isSound_5 rfl ?_
        refine rn_icmp_ge (tgt := 92) dL_isSound_6 rfl (fun _ => ?_) (fun q1 => absurd (by decide) q1)
        refine rn_iload dL_isSound_92 rfl ?_
        refine rn_topi (y := 1) (by rw [he]; rfl) ?_
        refine rn_if_eq (tgt := 121) dL_isSound_94 rfl (fun q2 => absurd q2 (by decide)) (fun _ => ?_)
        refine rn_aload_n dL_isSound_97 rfl ?_
        refine rn_iload_n dL_isSound_98 rfl ?_
        refine rn_iload_n dL_isSound_99 rfl ?_
        refine rn_callV dL_isSound_100 cv_L_122 (q_ways_a h hs hi hk he hf ha) rfl h_SH rfl rfl (by decide) (by decide) rfl (Nat.le_of_ble_eq_true rfl) ?_
        refine rn_if_gt (tgt := 121) dL_isSound_103 rfl (fun _ => ?_) (fun q3 => absurd (by exact hw) q3)
        refine rn_iconst (v := 1) dL_isSound_121 rfl ?_
        refine rn_goto (tgt := 126) dL_isSound_122 rfl ?_
        exact rn_ret dL_isSound_126 trivial rfl
      · have hnb : ¬ bitR (sA Q.X 40) s i = true := fun z => hw (ck_ways hx.1 hx.2 hi (by omega) z ha hf)
        have lo := lo.2 hnb
        obtain ⟨S', h', k3⟩ := q_left (l := l) (D := D) (ad := ad) (tc := tc) (L := L) (xs := xs) (E := E) (sl := sl) (s := s) (e := i) (c := c) (b := true) h hs hi hc hk he
        refine ⟨S', h', ?_⟩

        refine rn_iload dL_isSound_3 rfl ?_
        refine rn_iconst (v := 2) dL_isSound_5 rfl ?_
        refine rn_icmp_ge (tgt := 92) dL_isSound_6 rfl (fun _ => ?_) (fun q1 => absurd (by decide) q1)
        refine rn_iload dL_isSound_92 rfl ?_
        refine rn_topi (y := 1) (by rw [he]; rfl) ?_
        refine rn_if_eq (tgt := 121) dL_isSound_94 rfl (fun q2 => absurd q2 (by decide)) (fun _ => ?_)
        refine rn_aload_n dL_isSound_97 rfl ?_
        refine rn_iload_n dL_isSound_98 rfl ?_
        refine rn_iload_n dL_isSound_99 rfl ?_
        refine rn_callV dL_isSound_100 cv_L_122 (q_ways_a h hs hi hk he hf ha) rfl h_SH rfl rfl (by decide) (by decide) rfl (Nat.le_of_ble_eq_true rfl) ?_
        refine rn_if_gt (tgt := 121) dL_isSound_103 rfl (fun q3 => absurd q3 (by exact hw)) (fun _ => ?_)
        refine rn_aload_n dL_isSound_106 rfl ?_
        refine rn_iload_n dL_isSound_107 rfl ?_
        refine rn_iload_n dL_isSound_108 rfl ?_
        refine rn_iload_n dL_isSound_109 rfl ?_
        refine rn_iconst (v := 1) dL_isSound_110 rfl ?_
        refine rn_topi (y := bI true) rfl ?_
        refine rn_callV dL_isSound_111 cv_L_99 k3 rfl h_SH rfl rfl (by decide) (by decide) rfl (Nat.le_of_ble_eq_true rfl) ?_
        refine rn_dcon (n := 0) (m := 409595904) dL_isSound_114 wd_595 (by decide +kernel) ?_
        refine rn_dcmpv dL_isSound_117 (dB_of (by omega) (by omega)) (dB_of (by omega) (by omega)) ?_
        refine rn_if_ne (tgt := 125) dL_isSound_118 rfl (fun q4 => absurd q4 (by exact fun z9 => z9 (cmpI_eq.mpr lo))) (fun _ => ?_)
        refine rn_iconst (v := 1) dL_isSound_121 rfl ?_
        refine rn_goto (tgt := 126) dL_isSound_122 rfl ?_
        exact rn_ret dL_isSound_126 trivial rfl
theorem q_isSound (h : Inq Q S) (hs : s < Q.n) (hi : i < Q.n) (hc : c < Q.nc) (hk : stB Q.X s = true) : ∃ S', Inq Q S' ∧ Cn l D ad tc L xs mL_isSound 6 155 [.ref 1, .int (nI s), .int (nI i), .int (nI c), .int (bI (enB Q.X i))] (wd S E, sl) (some (.int 1)) (wd S' E, sl) := by
  obtain ⟨S', h', K⟩ := so_0 (l := l) (D := D) (ad := ad) (tc := tc) (L := L) (xs := xs) (E := E) (sl := sl) h hs hi hc hk (fun S h => so_1 h hs hi hc hk (fun S h => so_2 h hs hi hc hk))
  refine ⟨S', h', cn_of (lv0 := [(0, .ref 1), (1, .int (nI s)), (2, .int (nI i)), (3, .int (nI c)), (4, .int (bI (enB Q.X i)))]) (by decide +kernel) ⟨_, rfl, rfl⟩ (fun _ => by simp [lg_sl, j_v, Value.category]) (fun _ => rfl) ?_⟩
  refine rn_iconst (v := 0) dL_isSound_0 rfl ?_
  refine rn_istore dL_isSound_1 (by decide) rfl ?_
  exact rn_subg rfl K
end SO
