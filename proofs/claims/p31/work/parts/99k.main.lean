/-! the law, from its entry to its end -/
section LM
variable {l : Launch} {D : va_G} {ad : Nat → Nat} {tc : Nat → ClassId} {L : Nat} {xs : Nat → Int32} {M : j_M} {d lo pc : Nat} {lv : j_L} {st : List Value} {h' : j_H} {r : Option Value} {S : jS} {E : List j_C} {sl a : Nat} {sm : Int64} {Q : QC}
theorem rnL_newD (ha : E.length + 85 = a) (hd : decode M.2.1 pc = .ok (.newarray .double, 2))
    (kk : Rn l D ad tc L xs M d lo (pc + 2) lv (.ref a :: st) (wd S (E ++ [.inl (1, 2, .inr (.inr (.inr (.inl (fun _ => 0)))))]), sl + 2) r h') : Rn l D ad tc L xs M d lo pc lv (.int 2 :: st) (wd S E, sl) r h' := by
  subst ha
  refine rn_newarray (t := 1) (N := 2) (f := (2, .inr (.inr (.inr (.inl (fun _ => 0)))))) hd rfl wd_155 (by decide) (by decide) (by decide) (fun _ => rfl) (fun _ _ => rfl) ?_
  show Rn l D ad tc L xs M d lo (pc + 2) lv (.ref ((wd S E).length + 1) :: st) (wd S E ++ [.inl (1, 2, .inr (.inr (.inr (.inl (fun _ => 0)))))], sl + 2) r h'
  rw [wd_app, wd_len, show 84 + E.length + 1 = E.length + 85 by omega]
  exact kk
theorem rnQ_dast {q n : Nat} {f : Nat → UInt64} {i : Int32} {x : UInt64} (hd : decode M.2.1 pc = .ok (.dastore, 1)) (he : E[q]? = some (.inl (1, n, .inr (.inr (.inr (.inl f)))))) (hin : vp_in i n)
    (kk : Rn l D ad tc L xs M d lo (pc + 1) lv st (wd S (E.set q (.inl (1, n, .inr (.inr (.inr (.inl (vf_upd f i.toNatClampNeg x))))))), sl) r h') : Rn l D ad tc L xs M d lo pc lv (.double x :: .int i :: .ref (q + 84 + 1) :: st) (wd S E, sl) r h' := by
  refine rn_dastore (h := (wd S E, sl)) (a := q + 84) hd (wd_at2 he) rfl hin ?_
  show Rn l D ad tc L xs M d lo (pc + 1) lv st ((wd S E).set (q + 84) _, sl) r h'
  rw [wd_set2]
  exact kk
theorem rnL_dast {f : Nat → UInt64} {i : Int32} {x : UInt64} (ha : E.length + 85 = a) (hd : decode M.2.1 pc = .ok (.dastore, 1)) (hin : vp_in i 2)
    (kk : Rn l D ad tc L xs M d lo (pc + 1) lv st (wd S (E ++ [.inl (1, 2, .inr (.inr (.inr (.inl (vf_upd f i.toNatClampNeg x)))))]), sl) r h') : Rn l D ad tc L xs M d lo pc lv (.double x :: .int i :: .ref a :: st) (wd S (E ++ [.inl (1, 2, .inr (.inr (.inr (.inl f))))]), sl) r h' := by
  subst ha
  exact rnQ_dast (q := E.length) hd la_at hin (by rw [la_set]; exact kk)
theorem dl_two {x : Int} : vf_upd (vf_upd (fun _ => 0) 0 (dv x)) 1 (dv x) = dlf x x := by
  funext j
  unfold vf_upd dlf
  by_cases h : j = 1
  · subst h
    rfl
  · rw [if_neg h, if_neg h]
theorem lg_cmp_r (x : Int64) : lg_cmp x x = 0 := by
  unfold lg_cmp
  simp

set_option maxRecDepth 20000 in
theorem law_end (h11 : Q.n = 11) (hr : Q.nr = 0) (h2 : Q.nc = 2) (h3 : Q.nk = 3) (h9 : sI Q.X 0 2 = 0) (hE : E.length = 23) (hsm : sm = vDig Q) (h : Inq Q S) : ∃ S', Rn l D ad tc L xs mL_law 12 400 365 [(6, .int (nI (ckE Q.X 11 11))), (5, .ref 108), (3, .long sm), (2, .ref 85), (1, .ref 1), (0, .ref 0)] [] (wd S (E ++ [dl (lsE Q true 11) (lsE Q false 11)]), sl) (some (.int 1)) (wd S' (E ++ [dl (lsE Q true 11) (lsE Q false 11)]), sl) := by
  subst hsm
  have hx := Inq_X h
  have r0 := lsE_r (b := true) h 11
  have r1 := lsE_r (b := false) h 11
  have a0 := vLA_lsE (b := true) h
  have a1 := vLA_lsE (b := false) h
  rw [h11] at a0 a1
  have v1 : vLA Q true Q.nc = lsE Q true 11 := a0
  have v2 : vLA Q false Q.nc = lsE Q false 11 := a1
  have v3 : vMany Q 4 = nI (ckE Q.X 11 11) := by
    have := mCp_ck hx.1 hx.2 (by omega) Q.n (Nat.le_refl _)
    rw [h11] at this
    show mCp Q.X Q.n = _
    rw [h11]
    exact this
  obtain ⟨S1, h1, k1⟩ := q_least9 (l := l) (D := D) (ad := ad) (tc := tc) (L := L) (xs := xs) (sl := sl) (E := E ++ [dl (lsE Q true 11) (lsE Q false 11)]) (b := true) h
  obtain ⟨S2, h2', k2⟩ := q_least9 (l := l) (D := D) (ad := ad) (tc := tc) (L := L) (xs := xs) (sl := sl) (E := E ++ [dl (lsE Q true 11) (lsE Q false 11)]) (b := false) h1
  obtain ⟨S3, h3', k3⟩ := q_many_4 (l := l) (D := D) (ad := ad) (tc := tc) (L := L) (xs := xs) (sl := sl) (E := E ++ [dl (lsE Q true 11) (lsE Q false 11)]) h2'
  obtain ⟨S4, h4, k4⟩ := q_digest (l := l) (D := D) (ad := ad) (tc := tc) (L := L) (xs := xs) (sl := sl) (E := E ++ [dl (lsE Q true 11) (lsE Q false 11)]) h3' h9
  have c4 : CI S4 11 0 2 3 := ⟨by have := h4.1.1; rw [h11, hr, h2, h3] at this; exact this, ((Inq_TS h4).1 0 2 (by decide)).trans h9, h4.1.2.2.2.1⟩
  obtain ⟨S5, c5, f5, x5, k5⟩ := k_ex (l := l) (D := D) (ad := ad) (tc := tc) (L := L) (xs := xs) (sl := sl) (E := E ++ [dl (lsE Q true 11) (lsE Q false 11)]) c4
  obtain ⟨Q2, F2, E2, n2, r2, -, -⟩ := CI_Fst c5 f5
  have i2 := Fst_first F2
  have hx2 := Inq_X i2
  have t2 := TS_pd Q2.S Q2.n Q2.nr Q2.w
  have z0 : sI Q2.X 29 0 = 0 := (t2.1 29 0 (by decide)).trans (by rw [E2]; exact x5.1)
  have z1 : sI Q2.X 29 1 = -1 := (t2.1 29 1 (by decide)).trans (by rw [E2]; exact x5.2.1)
  have z2 : sI Q2.X 29 2 = -1 := (t2.1 29 2 (by decide)).trans (by rw [E2]; exact x5.2.2)
  have zz : ∀ e, e < Q2.n → sA Q2.X 40 e = 0 := fun e he => by
    rw [hx2.2.2.2.1 e he, r2]
    exact mCB_e (fun s => ex_chk z0 z1 z2) _
  have w1 : vMany Q2 4 = 0 := mCp_0 Q2.n zz
  have w2 : vLA Q2 true Q2.nc = 409595904 := vLA_0 zz _
  have w3 : (vBCo Q2 Q2.n).2 = -1 := by rw [vBCo_0 zz]
  obtain ⟨S6, h6, k6⟩ := q_least9 (l := l) (D := D) (ad := ad) (tc := tc) (L := L) (xs := xs) (sl := sl) (E := E ++ [dl (lsE Q true 11) (lsE Q false 11)]) (b := true) i2
  obtain ⟨S7, h7, k7⟩ := q_best (l := l) (D := D) (ad := ad) (tc := tc) (L := L) (xs := xs) (sl := sl) (E := E ++ [dl (lsE Q true 11) (lsE Q false 11)]) h6
  refine ⟨S7, ?_⟩
  refine rn_aload_n dL_law_365 rfl ?_
  refine rn_iconst (v := 1) dL_law_366 rfl ?_
  refine rn_topi (y := bI true) rfl ?_
  refine rn_callV dL_law_367 cv_L_103 k1 rfl h_SH rfl rfl (by decide) (by decide) rfl (Nat.le_of_ble_eq_true rfl) ?_
  refine rn_aload dL_law_370 rfl ?_
  refine rn_iconst (v := nI 0) dL_law_372 (by decide) ?_
  refine rnZ_ald0 (by rw [hE]) dL_law_373 ?_
  refine rn_dcmpv dL_law_374 (dB_of (by omega) (by omega)) (dB_of (by omega) (by omega)) ?_
  refine rn_if_ne (tgt := 410) dL_law_375 rfl (fun q1 => absurd q1 (by exact fun z9 => z9 (cmpI_eq.mpr v1))) (fun _ => ?_)
  refine rn_aload_n dL_law_378 rfl ?_
  refine rn_iconst (v := 0) dL_law_379 rfl ?_
  refine rn_topi (y := bI false) rfl ?_
  refine rn_callV dL_law_380 cv_L_103 k2 rfl h_SH rfl rfl (by decide) (by decide) rfl (Nat.le_of_ble_eq_true rfl) ?_
  refine rn_aload dL_law_383 rfl ?_
  refine rn_iconst (v := nI 1) dL_law_385 (by decide) ?_
  refine rnZ_ald1 (by rw [hE]) dL_law_386 ?_
  refine rn_dcmpv dL_law_387 (dB_of (by omega) (by omega)) (dB_of (by omega) (by omega)) ?_
  refine rn_if_ne (tgt := 410) dL_law_388 rfl (fun q2 => absurd q2 (by exact fun z9 => z9 (cmpI_eq.mpr v2))) (fun _ => ?_)
  refine rn_aload_n dL_law_391 rfl ?_
  refine rn_iconst (v := nI 4) dL_law_392 (by decide) ?_
  refine rn_callV dL_law_393 cv_L_107 k3 rfl h_SH rfl rfl (by decide) (by decide) rfl (Nat.le_of_ble_eq_true rfl) ?_
  refine rn_iload dL_law_396 rfl ?_
  refine rn_icmp_ne (tgt := 410) dL_law_398 rfl (fun q3 => absurd q3 (by exact fun z9 => z9 v3)) (fun _ => ?_)
  refine rn_aload_n dL_law_401 rfl ?_
  refine rn_callV dL_law_402 cv_L_58 k4 rfl h_SH rfl rfl (by decide) (by decide) rfl (Nat.le_of_ble_eq_true rfl) ?_
  refine rn_lload_n dL_law_405 rfl ?_
  refine rn_lcmp dL_law_406 ?_
  refine rn_if_eq (tgt := 412) dL_law_407 rfl (fun _ => ?_) (fun q4 => absurd (by exact lg_cmp_r _) q4)
  refine rn_aload_n dL_law_412 rfl ?_
  refine rn_iconst (v := 0) dL_law_413 rfl ?_
  refine rn_iconst (v := (-1)) dL_law_414 rfl ?_
  refine rn_iconst (v := (-1)) dL_law_415 rfl ?_
  refine rn_callV dL_law_416 cv_L_111 k5 rfl h_SH rfl rfl (by decide) (by decide) rfl (Nat.le_of_ble_eq_true rfl) ?_
  rw [← E2]
  refine rn_if_ne (tgt := 454) dL_law_419 rfl (fun q5 => absurd q5 (by decide)) (fun _ => ?_)
  refine rn_aload_n dL_law_422 rfl ?_
  refine rn_iconst (v := nI 4) dL_law_423 (by decide) ?_
  refine rn_callV dL_law_424 cv_L_107 (f_many_4 F2) rfl h_SH rfl rfl (by decide) (by decide) rfl (Nat.le_of_ble_eq_true rfl) ?_
  refine rn_if_ne (tgt := 454) dL_law_427 rfl (fun q6 => absurd q6 (by exact fun z9 => z9 w1)) (fun _ => ?_)
  refine rn_aload_n dL_law_430 rfl ?_
  refine rn_iconst (v := 1) dL_law_431 rfl ?_
  refine rn_topi (y := bI true) rfl ?_
  refine rn_callV dL_law_432 cv_L_103 k6 rfl h_SH rfl rfl (by decide) (by decide) rfl (Nat.le_of_ble_eq_true rfl) ?_
  refine rn_dcon (n := 0) (m := 409595904) dL_law_435 wd_595 (by decide +kernel) ?_
  refine rn_dcmpv dL_law_438 (dB_of (by omega) (by omega)) (dB_of (by omega) (by omega)) ?_
  refine rn_if_ne (tgt := 454) dL_law_439 rfl (fun q7 => absurd q7 (by exact fun z9 => z9 (cmpI_eq.mpr w2))) (fun _ => ?_)
  refine rn_aload_n dL_law_442 rfl ?_
  refine rn_callV dL_law_443 cv_L_114 k7 rfl h_SH rfl rfl (by decide) (by decide) rfl (Nat.le_of_ble_eq_true rfl) ?_
  refine rn_iconst (v := (-1)) dL_law_446 rfl ?_
  refine rn_icmp_ne (tgt := 454) dL_law_447 rfl (fun q8 => absurd q8 (by exact fun z9 => z9 w3)) (fun _ => ?_)
  refine rn_iconst (v := 1) dL_law_450 rfl ?_
  refine rn_goto (tgt := 455) dL_law_451 rfl ?_
  exact rn_ret dL_law_455 trivial rfl
set_option maxRecDepth 20000 in
theorem law_all (hL : L < 1000) : ∃ h' : j_H, (h'.1.length ≤ 400 ∧ h'.2 ≤ 20000) ∧ Rn l D ad tc L xs mL_law 12 400 0 [(0, .ref 0)] [] ([], 0) (some (.int 1)) h' := by
  obtain ⟨S1, E, ⟨c1, r1, hE⟩, kc⟩ := c_L_chip (l := l) (D := D) (ad := ad) (tc := tc) (L := L) (xs := xs) (s := 6511) hL
  have b1 := bel_lt (v := (celV L xs 4)) (n := 9) (by decide)
  have b2 := bel_lt (v := (celV L xs 6)) (n := 8) (by decide)
  obtain ⟨S2, c2, s2, f2, kd⟩ := k_corner (l := l) (D := D) (ad := ad) (tc := tc) (L := L) (xs := xs) (sl := 6698) (E := E) (x := 8 + bel (celV L xs 4) 9) (y := 1 + bel (celV L xs 6) 8) c1 (by decide) (by omega) (by omega)
  obtain ⟨Q, F, E2, n2, nr2, nc2, nk2⟩ := CI_Fst c2 f2
  subst E2
  obtain ⟨S3, h3, ke⟩ := f_digest (l := l) (D := D) (ad := ad) (tc := tc) (L := L) (xs := xs) (sl := 6698) (E := E) F
  have t := TS_pd Q.S Q.n Q.nr Q.w
  have rX : RWs Q.X E 11 := RWs_KS r1 (m := 11) (fun i hi => ⟨(t.1 _ _ (by omega)).trans (s2 i (by omega)).1, (congrFun t.2.2.2 i).trans (s2 i (by omega)).2⟩) (Nat.le_refl _)
  obtain ⟨S4, h4, k3⟩ := lp_nodes (l := l) (D := D) (ad := ad) (tc := tc) (L := L) (xs := xs) (sl := 6700) (sm := vDig Q) n2 nc2 nk2 hE rX 11 0 (by decide) S3 h3
  obtain ⟨S5, k4⟩ := law_end (l := l) (D := D) (ad := ad) (tc := tc) (L := L) (xs := xs) (sl := 6700) n2 nr2 nc2 nk2 (Fst_9 F) hE rfl h4
  refine ⟨(wd S5 (E ++ [dl (lsE Q true 11) (lsE Q false 11)]), 6700), ⟨?_, ?_⟩, ?_⟩
  rotate_left 2
  refine rnT_new (G := []) (T := []) (a := 0) (t := 0) rfl rfl dL_law_0 no_L_20 ?_
  refine rn_dup dL_law_3 rfl ?_
  refine rn_h (h2 := ([.inr (9, [.null, .null, .int 0, .int 0])], 4)) rfl ?_
  refine rn_callI dL_law_4 ci_L_50 (c_X9_init) rfl (by decide) (by decide) rfl (Nat.le_of_ble_eq_true rfl) ?_
  refine rn_h (h2 := (wd s0 [], 6511)) rfl ?_
  refine rn_astore_n dL_law_7 (by decide) rfl ?_
  refine rn_aload_n dL_law_8 rfl ?_
  refine rn_aload_n dL_law_9 rfl ?_
  refine rn_iconst (v := nI 3) dL_law_10 (by decide) ?_
  refine rn_bipush (v := nI 11) dL_law_11 (by decide) ?_
  refine rn_bipush (v := nI 7) dL_law_13 (by decide) ?_
  refine rn_callS dL_law_15 cs_L_51 kc rfl (by decide) (by decide) rfl (Nat.le_of_ble_eq_true rfl) ?_
  refine rn_astore_n dL_law_18 (by decide) rfl ?_
  refine rn_aload_n dL_law_19 rfl ?_
  refine rn_bipush (v := nI 8) dL_law_20 (by decide) ?_
  refine rn_aload_n dL_law_22 rfl ?_
  refine rn_iconst (v := nI 4) dL_law_23 (by decide) ?_
  refine rn_callS dL_law_24 cs_L_9 (c_L_cell hL (by decide)) rfl (by decide) (by decide) rfl (Nat.le_of_ble_eq_true rfl) ?_
  refine rn_bipush (v := nI 9) dL_law_27 (by decide) ?_
  refine rn_callS dL_law_29 cs_L_15 (c_L_below (by decide) (by decide)) rfl (by decide) (by decide) rfl (Nat.le_of_ble_eq_true rfl) ?_
  refine rn_iadd dL_law_32 ?_
  refine rn_topi (nI_add _ _) ?_
  refine rn_iconst (v := nI 1) dL_law_33 (by decide) ?_
  refine rn_aload_n dL_law_34 rfl ?_
  refine rn_bipush (v := nI 6) dL_law_35 (by decide) ?_
  refine rn_callS dL_law_37 cs_L_9 (c_L_cell hL (by decide)) rfl (by decide) (by decide) rfl (Nat.le_of_ble_eq_true rfl) ?_
  refine rn_bipush (v := nI 8) dL_law_40 (by decide) ?_
  refine rn_callS dL_law_42 cs_L_15 (c_L_below (by decide) (by decide)) rfl (by decide) (by decide) rfl (Nat.le_of_ble_eq_true rfl) ?_
  refine rn_iadd dL_law_45 ?_
  refine rn_topi (nI_add _ _) ?_
  refine rn_callV dL_law_46 cv_L_55 kd rfl h_SH rfl rfl (by decide) (by decide) rfl (Nat.le_of_ble_eq_true rfl) ?_
  refine rn_pop dL_law_49 rfl ?_
  refine rn_aload_n dL_law_50 rfl ?_
  refine rn_callV dL_law_51 cv_L_58 ke rfl h_SH rfl rfl (by decide) (by decide) rfl (Nat.le_of_ble_eq_true rfl) ?_
  refine rn_lstore_n dL_law_54 (by decide) rfl ?_
  refine rn_iconst (v := 2) dL_law_55 rfl ?_
  refine rnL_newD (by rw [hE]) dL_law_56 ?_
  refine rn_dup dL_law_58 rfl ?_
  refine rn_iconst (v := nI 0) dL_law_59 (by decide) ?_
  refine rn_dcon (n := 0) (m := 409595904) dL_law_60 wd_595 (by decide +kernel) ?_
  refine rnL_dast (by rw [hE]) dL_law_63 (vp_in_nI (by decide) (by decide)) ?_
  rw [nI_clamp (by decide)]
  refine rn_dup dL_law_64 rfl ?_
  refine rn_iconst (v := nI 1) dL_law_65 (by decide) ?_
  refine rn_dcon (n := 0) (m := 409595904) dL_law_66 wd_595 (by decide +kernel) ?_
  refine rnL_dast (by rw [hE]) dL_law_69 (vp_in_nI (by decide) (by decide)) ?_
  rw [nI_clamp (by decide)]
  refine rn_astore dL_law_70 (by decide) rfl ?_
  refine rn_iconst (v := 0) dL_law_72 rfl ?_
  refine rn_istore dL_law_73 (by decide) rfl ?_
  refine rn_iconst (v := 0) dL_law_75 rfl ?_
  refine rn_istore dL_law_76 (by decide) rfl ?_
  refine rn_h (h2 := (wd S3 (E ++ [dl 409595904 409595904]), 6700)) (by rw [dl_two]; rfl) ?_
  exact rn_subg rfl (k3 _ _ k4)
  · show (wd S5 _).length ≤ 400
    rw [wd_len, List.length_append, hE, List.length_singleton]
    decide
  · show 6700 ≤ 20000
    decide
end LM
