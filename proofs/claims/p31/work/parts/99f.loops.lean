/-! the law's inner loops -/
section LL
variable {l : Launch} {D : va_G} {ad : Nat → Nat} {tc : Nat → ClassId} {L : Nat} {xs : Nat → Int32} {S : jS} {E : List j_C} {sl a5 : Nat} {sm : Int64} {Q : QC} {i c : Nat} {ck : Int32}
theorem rnX_aald {M : j_M} {d lo pc : Nat} {lv : j_L} {st : List Value} {h' : j_H} {r : Option Value} {S0 : jS} {k n : Nat} (hR : RWs S0 E n) (hk : k < n) (hn : n ≤ 11) (hd : decode M.2.1 pc = .ok (.aaload, 1))
    (kk : Rn l D ad tc L xs M d lo (pc + 1) lv (.ref (2 * k + 2 + 84 + 1) :: st) (wd S E, sl) r h') : Rn l D ad tc L xs M d lo pc lv (.int (nI k) :: .ref 85 :: st) (wd S E, sl) r h' :=
  rn_aaloadI (a := 0 + 84) hd (wd_at2 hR.1) (vp_in_nI (by omega) (by decide)) (by rw [nI_clamp (by omega)]; exact if_pos hk) kk
theorem stB_kd {X : jS} {k : Nat} : decide (kd X k = 0 ∨ kd X k = 6 ∨ kd X k = 7) = stB X k := rfl
set_option maxRecDepth 20000 in
theorem lp_starts (h11 : Q.n = 11) (hR : RWs Q.X E 11) (hi : i < Q.n) (hc : c < Q.nc) : ∀ m k : Nat, k + m = 11 → ∀ S, Inq Q S → ∃ S2, Inq Q S2 ∧ ∀ (r : Option Value) (h' : j_H), Rn l D ad tc L xs mL_law 12 400 293 [(9, .int (nI c)), (8, .int (bI (enB Q.X i))), (6, .int ck), (7, .int (nI i)), (5, .ref a5), (3, .long sm), (2, .ref 85), (1, .ref 1), (0, .ref 0)] [] (wd S2 E, sl) r h' → Rn l D ad tc L xs mL_law 12 400 251 [(10, .int (nI k)), (9, .int (nI c)), (8, .int (bI (enB Q.X i))), (6, .int ck), (7, .int (nI i)), (5, .ref a5), (3, .long sm), (2, .ref 85), (1, .ref 1), (0, .ref 0)] [] (wd S E, sl) r h' := by
  intro m
  induction m with
  | zero =>
    intro k hk S h
    have hk' : k = 11 := by omega
    subst hk'
    refine ⟨S, h, fun r h' z => ?_⟩
    refine rn_iload dL_law_251 rfl ?_
    refine rn_bipush (v := nI 11) dL_law_253 (by decide) ?_
    refine rn_icmp_ge (tgt := 293) dL_law_255 rfl (fun _ => ?_) (fun q1 => absurd (by exact Int32.le_refl _) q1)
    exact rn_subg rfl z
  | succ m ih =>
    intro k hk S h
    have hk11 : k < 11 := by omega
    have K4 : nI k < nI 11 := nI_lt hk11 (by decide)
    obtain ⟨f, e1, e2, -⟩ := hR.2 k hk11
    cases hs : stB Q.X k with
    | true =>
      obtain ⟨S1, h1, k1⟩ := q_isSound (l := l) (D := D) (ad := ad) (tc := tc) (L := L) (xs := xs) (E := E) (sl := sl) (s := k) (i := i) (c := c) h (by omega) hi hc hs
      obtain ⟨S2, h2, ih⟩ := ih (k + 1) (by omega) S1 h1
      refine ⟨S2, h2, fun r h' z => ?_⟩
      refine rn_iload dL_law_251 rfl ?_
      refine rn_bipush (v := nI 11) dL_law_253 (by decide) ?_
      refine rn_icmp_ge (tgt := 293) dL_law_255 rfl (fun q1 => absurd q1 (by exact Int32.not_le.mpr K4)) (fun _ => ?_)
      refine rn_aload_n dL_law_258 rfl ?_
      refine rn_iload dL_law_259 rfl ?_
      refine rnX_aald hR (by omega) (by decide) dL_law_261 ?_
      refine rn_iconst (v := nI 0) dL_law_262 (by decide) ?_
      refine rnE_iald dL_law_263 e1 (vp_in_nI (by decide) (by decide)) ?_
      rw [nI_clamp (by decide)]
      refine rn_topi (y := kd Q.X k) e2 ?_
      refine rn_callS dL_law_264 cs_L_91 c_L_isStart rfl (by decide) (by decide) rfl (Nat.le_of_ble_eq_true rfl) ?_
      refine rn_topi (is_b (stB_kd.trans hs)) ?_
      refine rn_if_eq (tgt := 287) dL_law_267 rfl (fun q2 => absurd q2 (by decide)) (fun _ => ?_)
      refine rn_aload_n dL_law_270 rfl ?_
      refine rn_iload dL_law_271 rfl ?_
      refine rn_iload dL_law_273 rfl ?_
      refine rn_iload dL_law_275 rfl ?_
      refine rn_iload dL_law_277 rfl ?_
      refine rn_callS dL_law_279 cs_L_95 k1 rfl (by decide) (by decide) rfl (Nat.le_of_ble_eq_true rfl) ?_
      refine rn_if_ne (tgt := 287) dL_law_282 rfl (fun _ => ?_) (fun q3 => absurd q3 (by decide))
      refine rn_iinc dL_law_287 rfl (nI_1 _) (by decide) rfl ?_
      refine rn_goto (tgt := 251) dL_law_290 rfl ?_
      exact rn_subg rfl (ih r h' z)
    | false =>
      obtain ⟨S2, h2, ih⟩ := ih (k + 1) (by omega) S h
      refine ⟨S2, h2, fun r h' z => ?_⟩
      refine rn_iload dL_law_251 rfl ?_
      refine rn_bipush (v := nI 11) dL_law_253 (by decide) ?_
      refine rn_icmp_ge (tgt := 293) dL_law_255 rfl (fun q1 => absurd q1 (by exact Int32.not_le.mpr K4)) (fun _ => ?_)
      refine rn_aload_n dL_law_258 rfl ?_
      refine rn_iload dL_law_259 rfl ?_
      refine rnX_aald hR (by omega) (by decide) dL_law_261 ?_
      refine rn_iconst (v := nI 0) dL_law_262 (by decide) ?_
      refine rnE_iald dL_law_263 e1 (vp_in_nI (by decide) (by decide)) ?_
      rw [nI_clamp (by decide)]
      refine rn_topi (y := kd Q.X k) e2 ?_
      refine rn_callS dL_law_264 cs_L_91 c_L_isStart rfl (by decide) (by decide) rfl (Nat.le_of_ble_eq_true rfl) ?_
      refine rn_topi (y := 0) (by rw [stB_kd, hs]; rfl) ?_
      refine rn_if_eq (tgt := 287) dL_law_267 rfl (fun _ => ?_) (fun q2 => absurd (by rfl) q2)
      refine rn_iinc dL_law_287 rfl (nI_1 _) (by decide) rfl ?_
      refine rn_goto (tgt := 251) dL_law_290 rfl ?_
      exact rn_subg rfl (ih r h' z)
set_option maxRecDepth 20000 in
theorem lp_checks {n0 : Nat} (h11 : Q.n = 11) (hR : RWs Q.X E 11) (hi : i < Q.n) (he : enB Q.X i = true) : ∀ m k : Nat, k + m = 11 → ∀ S, Inq Q S → ∃ S2, Inq Q S2 ∧ ∀ (r : Option Value) (h' : j_H), Rn l D ad tc L xs mL_law 12 400 359 [(8, .int (bI (enB Q.X i))), (6, .int (nI (n0 + ckS Q.X i 11))), (7, .int (nI i)), (5, .ref a5), (3, .long sm), (2, .ref 85), (1, .ref 1), (0, .ref 0)] [] (wd S2 E, sl) r h' → Rn l D ad tc L xs mL_law 12 400 302 [(9, .int (nI k)), (8, .int (bI (enB Q.X i))), (6, .int (nI (n0 + ckS Q.X i k))), (7, .int (nI i)), (5, .ref a5), (3, .long sm), (2, .ref 85), (1, .ref 1), (0, .ref 0)] [] (wd S E, sl) r h' := by
  intro m
  induction m with
  | zero =>
    intro k hk S h
    have hk' : k = 11 := by omega
    subst hk'
    refine ⟨S, h, fun r h' z => ?_⟩
    refine rn_iload dL_law_302 rfl ?_
    refine rn_bipush (v := nI 11) dL_law_304 (by decide) ?_
    refine rn_icmp_ge (tgt := 359) dL_law_306 rfl (fun _ => ?_) (fun q1 => absurd (by exact Int32.le_refl _) q1)
    exact rn_subg rfl z
  | succ m ih =>
    intro k hk S h
    have hk11 : k < 11 := by omega
    have hx := Inq_X h
    have hc0 : 0 < Q.nc := by have := h.1.1.2.2.1.2.1; omega
    have K4 : nI k < nI 11 := nI_lt hk11 (by decide)
    obtain ⟨f, e1, e2, -⟩ := hR.2 k hk11
    have lo := Q_lo (c := 0) (s := k) (e := i) (b := true) h (by decide)
    cases hs : stB Q.X k with
    | true =>
      obtain ⟨S1, h1, k1⟩ := q_left (l := l) (D := D) (ad := ad) (tc := tc) (L := L) (xs := xs) (E := E) (sl := sl) (s := k) (e := i) (c := 0) (b := true) h (by omega) hi hc0 hs he
      obtain ⟨S2, h2, ih⟩ := ih (k + 1) (by omega) S1 h1
      refine ⟨S2, h2, fun r h' z => ?_⟩
      by_cases hb : bitR (sA Q.X 40) k i = true
      · have lo := lo.1 hb
        refine rn_iload dL_law_302 rfl ?_
        refine rn_bipush (v := nI 11) dL_law_304 (by decide) ?_
        refine rn_icmp_ge (tgt := 359) dL_law_306 rfl (fun q1 => absurd q1 (by exact Int32.not_le.mpr K4)) (fun _ => ?_)
        refine rn_iload dL_law_309 rfl ?_
        refine rn_topi (y := 1) (by rw [he]; rfl) ?_
        refine rn_if_eq (tgt := 359) dL_law_311 rfl (fun q2 => absurd q2 (by decide)) (fun _ => ?_)
        refine rn_aload_n dL_law_314 rfl ?_
        refine rn_iload dL_law_315 rfl ?_
        refine rnX_aald hR (by omega) (by decide) dL_law_317 ?_
        refine rn_iconst (v := nI 0) dL_law_318 (by decide) ?_
        refine rnE_iald dL_law_319 e1 (vp_in_nI (by decide) (by decide)) ?_
        rw [nI_clamp (by decide)]
        refine rn_topi (y := kd Q.X k) e2 ?_
        refine rn_callS dL_law_320 cs_L_91 c_L_isStart rfl (by decide) (by decide) rfl (Nat.le_of_ble_eq_true rfl) ?_
        refine rn_topi (is_b (stB_kd.trans hs)) ?_
        refine rn_if_eq (tgt := 353) dL_law_323 rfl (fun q3 => absurd q3 (by decide)) (fun _ => ?_)
        refine rn_iload dL_law_326 rfl ?_
        refine rn_aload_n dL_law_328 rfl ?_
        refine rn_iload dL_law_329 rfl ?_
        refine rn_iload dL_law_331 rfl ?_
        refine rn_iconst (v := nI 0) dL_law_333 (by decide) ?_
        refine rn_iconst (v := 1) dL_law_334 rfl ?_
        refine rn_topi (y := bI true) rfl ?_
        refine rn_callV dL_law_335 cv_L_99 k1 rfl h_SH rfl rfl (by decide) (by decide) rfl (Nat.le_of_ble_eq_true rfl) ?_
        refine rn_dcon (n := 0) (m := 409595904) dL_law_338 wd_595 (by decide +kernel) ?_
        refine rn_dcmpv dL_law_341 (dB_of (by omega) (by omega)) (dB_of (by omega) (by omega)) ?_
        refine rn_if_ge (tgt := 349) dL_law_342 rfl (fun q4 => absurd q4 (by exact fun z9 => by have := cmpI_ge.mp z9; omega)) (fun _ => ?_)
        refine rn_iconst (v := 1) dL_law_345 rfl ?_
        refine rn_goto (tgt := 350) dL_law_346 rfl ?_
        refine rn_iadd dL_law_350 ?_
        refine rn_topi (y := nI (n0 + ckS Q.X i (k + 1))) (by show nI (n0 + ckS Q.X i k) + 1 = nI (n0 + (ckS Q.X i k + (if bitR (sA Q.X 40) k i = true then 1 else 0))); rw [if_pos hb, nI_1]; rfl) ?_
        refine rn_istore dL_law_351 (by decide) rfl ?_
        refine rn_iinc dL_law_353 rfl (nI_1 _) (by decide) rfl ?_
        refine rn_goto (tgt := 302) dL_law_356 rfl ?_
        exact rn_subg rfl (ih r h' z)
      · have lo := lo.2 hb
        refine rn_iload dL_law_302 rfl ?_
        refine rn_bipush (v := nI 11) dL_law_304 (by decide) ?_
        refine rn_icmp_ge (tgt := 359) dL_law_306 rfl (fun q1 => absurd q1 (by exact Int32.not_le.mpr K4)) (fun _ => ?_)
        refine rn_iload dL_law_309 rfl ?_
        refine rn_topi (y := 1) (by rw [he]; rfl) ?_
        refine rn_if_eq (tgt := 359) dL_law_311 rfl (fun q2 => absurd q2 (by decide)) (fun _ => ?_)
        refine rn_aload_n dL_law_314 rfl ?_
        refine rn_iload dL_law_315 rfl ?_
        refine rnX_aald hR (by omega) (by decide) dL_law_317 ?_
        refine rn_iconst (v := nI 0) dL_law_318 (by decide) ?_
        refine rnE_iald dL_law_319 e1 (vp_in_nI (by decide) (by decide)) ?_
        rw [nI_clamp (by decide)]
        refine rn_topi (y := kd Q.X k) e2 ?_
        refine rn_callS dL_law_320 cs_L_91 c_L_isStart rfl (by decide) (by decide) rfl (Nat.le_of_ble_eq_true rfl) ?_
        refine rn_topi (is_b (stB_kd.trans hs)) ?_
        refine rn_if_eq (tgt := 353) dL_law_323 rfl (fun q3 => absurd q3 (by decide)) (fun _ => ?_)
        refine rn_iload dL_law_326 rfl ?_
        refine rn_aload_n dL_law_328 rfl ?_
        refine rn_iload dL_law_329 rfl ?_
        refine rn_iload dL_law_331 rfl ?_
        refine rn_iconst (v := nI 0) dL_law_333 (by decide) ?_
        refine rn_iconst (v := 1) dL_law_334 rfl ?_
        refine rn_topi (y := bI true) rfl ?_
        refine rn_callV dL_law_335 cv_L_99 k1 rfl h_SH rfl rfl (by decide) (by decide) rfl (Nat.le_of_ble_eq_true rfl) ?_
        refine rn_dcon (n := 0) (m := 409595904) dL_law_338 wd_595 (by decide +kernel) ?_
        refine rn_dcmpv dL_law_341 (dB_of (by omega) (by omega)) (dB_of (by omega) (by omega)) ?_
        refine rn_if_ge (tgt := 349) dL_law_342 rfl (fun _ => ?_) (fun q4 => absurd (by exact cmpI_ge.mpr (by omega)) q4)
        refine rn_iconst (v := nI 0) dL_law_349 (by decide) ?_
        refine rn_iadd dL_law_350 ?_
        refine rn_topi (y := nI (n0 + ckS Q.X i (k + 1))) (by show nI (n0 + ckS Q.X i k) + 0 = nI (n0 + (ckS Q.X i k + (if bitR (sA Q.X 40) k i = true then 1 else 0))); rw [if_neg hb]; exact Int32.add_zero _) ?_
        refine rn_istore dL_law_351 (by decide) rfl ?_
        refine rn_iinc dL_law_353 rfl (nI_1 _) (by decide) rfl ?_
        refine rn_goto (tgt := 302) dL_law_356 rfl ?_
        exact rn_subg rfl (ih r h' z)
    | false =>
      have hb : ¬ bitR (sA Q.X 40) k i = true := fun z => by
        have := (ck_pair hx.1 hx.2 hi (by omega) z).2.1
        rw [hs] at this
        exact absurd this (by decide)
      have hck : ckS Q.X i (k + 1) = ckS Q.X i k := by
        show ckS Q.X i k + _ = _
        rw [if_neg hb]
        rfl
      obtain ⟨S2, h2, ih⟩ := ih (k + 1) (by omega) S h
      rw [hck] at ih
      refine ⟨S2, h2, fun r h' z => ?_⟩
      refine rn_iload dL_law_302 rfl ?_
      refine rn_bipush (v := nI 11) dL_law_304 (by decide) ?_
      refine rn_icmp_ge (tgt := 359) dL_law_306 rfl (fun q1 => absurd q1 (by exact Int32.not_le.mpr K4)) (fun _ => ?_)
      refine rn_iload dL_law_309 rfl ?_
      refine rn_topi (y := 1) (by rw [he]; rfl) ?_
      refine rn_if_eq (tgt := 359) dL_law_311 rfl (fun q2 => absurd q2 (by decide)) (fun _ => ?_)
      refine rn_aload_n dL_law_314 rfl ?_
      refine rn_iload dL_law_315 rfl ?_
      refine rnX_aald hR (by omega) (by decide) dL_law_317 ?_
      refine rn_iconst (v := nI 0) dL_law_318 (by decide) ?_
      refine rnE_iald dL_law_319 e1 (vp_in_nI (by decide) (by decide)) ?_
      rw [nI_clamp (by decide)]
      refine rn_topi (y := kd Q.X k) e2 ?_
      refine rn_callS dL_law_320 cs_L_91 c_L_isStart rfl (by decide) (by decide) rfl (Nat.le_of_ble_eq_true rfl) ?_
      refine rn_topi (y := 0) (by rw [stB_kd, hs]; rfl) ?_
      refine rn_if_eq (tgt := 353) dL_law_323 rfl (fun _ => ?_) (fun q3 => absurd (by rfl) q3)
      refine rn_iinc dL_law_353 rfl (nI_1 _) (by decide) rfl ?_
      refine rn_goto (tgt := 302) dL_law_356 rfl ?_
      exact rn_subg rfl (ih r h' z)
end LL
