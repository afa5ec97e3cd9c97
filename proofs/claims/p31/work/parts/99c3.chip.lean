/-! the law's chip, 3 -/
section CH2
variable {l : Launch} {D : va_G} {ad : Nat → Nat} {tc : Nat → ClassId} {L : Nat} {xs : Nat → Int32} {S : jS} {E : List j_C} {s sF k : Nat} {x K : Int32}
theorem ch_373 {S1 : jS} {c : j_C} {f : Nat → Int32} {v : Int32} (hK : ∀ S E, CI S (k + 1) 0 1 3 → RWs S E (k + 1) → E.length = 2 * k + 3 → kd S 0 ≠ 8 → Gc l D ad tc L xs sF 147 [(6, .int (nI (k + 1))), (5, .ref 85), (4, .int (nI 7)), (3, .int (nI 11)), (2, .int (nI 3)), (1, .ref 0), (0, .ref 1)] [] (wd S E, s)) (hk : k < 11) (h : CI S1 (k + 1) 0 1 3) (hR : RWs S E k) (hKS : KS S S1 k) (hE : E.length = 2 * k + 1) (h8 : kd S1 0 ≠ 8) (hkd : kd S1 k = K) (h0 : f 0 = K) (h3 : K = 7 → f 3 = nI (sV S1 k) ∧ sV S1 k < 3) : Gc l D ad tc L xs sF 373 [(9, .int K), (10, .ref (2 * k + 2 + 84 + 1)), (7, .int x), (6, .int (nI k)), (5, .ref 85), (4, .int (nI 7)), (3, .int (nI 11)), (2, .int (nI 3)), (1, .ref 0), (0, .ref 1)] [.int v, .int (nI 2), .ref (2 * k + 2 + 84 + 1)] (wd S1 ((E ++ [c]) ++ [.inl (0, 7, .inl f)]), s) := by
  have hrow : ((E ++ [c]) ++ [.inl (0, 7, .inl (upd f 2 v))])[2 * k + 2]? = some (rwC (upd f 2 v)) := by
    have hl : (E ++ [c]).length = 2 * k + 2 := by simp [hE]
    rw [← hl]
    exact la_at
  refine Gc.of (fun r h' z => ?_) (ch_381 (x := x) (K := K) hK hk h (RWs_new (c := c) (f := upd f 2 v) hR hE hKS (h0.trans hkd.symm) (fun z => h3 (hkd.symm.trans z))) (by rw [List.length_set]; simp only [List.length_append, List.length_cons, List.length_nil]; omega) h8 hkd)
  refine rnL_ias (by first | omega | (simp only [List.length_append, List.length_cons, List.length_nil]; omega)) dL_chip_373 (vp_in_nI (by decide) (by decide)) ?_
  rw [nI_clamp (by decide)]
  refine rn_aload dL_chip_374 rfl ?_
  refine rn_iload dL_chip_376 rfl ?_
  refine rn_aload dL_chip_378 rfl ?_
  refine rn_aastoreI (a := 0 + 84) (v := 2 * k + 2 + 84) dL_chip_380 (wd_at2 (RWs_app (RWs_app hR)).1) (wd_at2 hrow) (vp_in_nI (by omega) (by decide)) ?_
  rw [nI_clamp (by omega), mkF_up]
  refine rn_h (h2 := (wd S1 (((E ++ [c]) ++ [rwC (upd f 2 v)]).set 0 (mdC (k + 1))), s)) (by show ((wd S1 _).set (0 + 84) _, s) = _; rw [wd_set2]; rfl) ?_
  exact rn_subg rfl z
theorem ch_348 {S1 : jS} {c : j_C} {f : Nat → Int32} {v : Int32} (hK : ∀ S E, CI S (k + 1) 0 1 3 → RWs S E (k + 1) → E.length = 2 * k + 3 → kd S 0 ≠ 8 → Gc l D ad tc L xs sF 147 [(6, .int (nI (k + 1))), (5, .ref 85), (4, .int (nI 7)), (3, .int (nI 11)), (2, .int (nI 3)), (1, .ref 0), (0, .ref 1)] [] (wd S E, s)) (hk : k < 11) (h : CI S1 (k + 1) 0 1 3) (hR : RWs S E k) (hKS : KS S S1 k) (hE : E.length = 2 * k + 1) (h8 : kd S1 0 ≠ 8) (hkd : kd S1 k = K) (h0 : f 0 = K) (h3 : K = 7 → f 3 = nI (sV S1 k) ∧ sV S1 k < 3) : Gc l D ad tc L xs sF 348 [(9, .int K), (10, .ref (2 * k + 2 + 84 + 1)), (7, .int x), (6, .int (nI k)), (5, .ref 85), (4, .int (nI 7)), (3, .int (nI 11)), (2, .int (nI 3)), (1, .ref 0), (0, .ref 1)] [.int v, .int (nI 1), .ref (2 * k + 2 + 84 + 1)] (wd S1 ((E ++ [c]) ++ [.inl (0, 7, .inl f)]), s) := by
  have m1 : Gc l D ad tc L xs sF 373 [(9, .int K), (10, .ref (2 * k + 2 + 84 + 1)), (7, .int x), (6, .int (nI k)), (5, .ref 85), (4, .int (nI 7)), (3, .int (nI 11)), (2, .int (nI 3)), (1, .ref 0), (0, .ref 1)] [.int (-1), .int (nI 2), .ref (2 * k + 2 + 84 + 1)] (wd S1 ((E ++ [c]) ++ [.inl (0, 7, .inl (upd f 1 v))]), s) := ch_373 (c := c) (x := x) hK hk h hR hKS hE h8 hkd h0 h3
  by_cases k2 : K ≤ 2
  · refine Gc.of (fun r h' z => ?_) m1
    refine rnL_ias (by first | omega | (simp only [List.length_append, List.length_cons, List.length_nil]; omega)) dL_chip_348 (vp_in_nI (by decide) (by decide)) ?_
    rw [nI_clamp (by decide)]
    refine rn_aload dL_chip_349 rfl ?_
    refine rn_iconst (v := nI 2) dL_chip_351 (by decide) ?_
    refine rn_iload dL_chip_352 rfl ?_
    refine rn_iconst (v := 2) dL_chip_354 rfl ?_
    refine rn_icmp_le (tgt := 372) dL_chip_355 rfl (fun _ => ?_) (fun q1 => absurd (by exact k2) q1)
    refine rn_iconst (v := (-1)) dL_chip_372 rfl ?_
    exact rn_subg rfl z
  · by_cases k6 : 6 ≤ K
    · refine Gc.of (fun r h' z => ?_) m1
      refine rnL_ias (by first | omega | (simp only [List.length_append, List.length_cons, List.length_nil]; omega)) dL_chip_348 (vp_in_nI (by decide) (by decide)) ?_
      rw [nI_clamp (by decide)]
      refine rn_aload dL_chip_349 rfl ?_
      refine rn_iconst (v := nI 2) dL_chip_351 (by decide) ?_
      refine rn_iload dL_chip_352 rfl ?_
      refine rn_iconst (v := 2) dL_chip_354 rfl ?_
      refine rn_icmp_le (tgt := 372) dL_chip_355 rfl (fun q1 => absurd q1 (by exact k2)) (fun _ => ?_)
      refine rn_iload dL_chip_358 rfl ?_
      refine rn_bipush (v := 6) dL_chip_360 rfl ?_
      refine rn_icmp_ge (tgt := 372) dL_chip_362 rfl (fun _ => ?_) (fun q2 => absurd (by exact k6) q2)
      refine rn_iconst (v := (-1)) dL_chip_372 rfl ?_
      exact rn_subg rfl z
    · refine Gc.of (fun r h' z => ?_) (ch_373 (c := c) (x := x) (v := upd f 1 v 2) (f := upd f 1 v) hK hk h hR hKS hE h8 hkd h0 h3)
      refine rnL_ias (by first | omega | (simp only [List.length_append, List.length_cons, List.length_nil]; omega)) dL_chip_348 (vp_in_nI (by decide) (by decide)) ?_
      rw [nI_clamp (by decide)]
      refine rn_aload dL_chip_349 rfl ?_
      refine rn_iconst (v := nI 2) dL_chip_351 (by decide) ?_
      refine rn_iload dL_chip_352 rfl ?_
      refine rn_iconst (v := 2) dL_chip_354 rfl ?_
      refine rn_icmp_le (tgt := 372) dL_chip_355 rfl (fun q1 => absurd q1 (by exact k2)) (fun _ => ?_)
      refine rn_iload dL_chip_358 rfl ?_
      refine rn_bipush (v := 6) dL_chip_360 rfl ?_
      refine rn_icmp_ge (tgt := 372) dL_chip_362 rfl (fun q2 => absurd q2 (by exact k6)) (fun _ => ?_)
      refine rn_aload dL_chip_365 rfl ?_
      refine rn_iconst (v := nI 2) dL_chip_367 (by decide) ?_
      refine rnL_iald (by first | omega | (simp only [List.length_append, List.length_cons, List.length_nil]; omega)) dL_chip_368 (vp_in_nI (by decide) (by decide)) ?_
      rw [nI_clamp (by decide)]
      refine rn_goto (tgt := 373) dL_chip_369 rfl ?_
      exact rn_subg rfl z
theorem ch_325 {S1 : jS} {c : j_C} {f : Nat → Int32} (hK : ∀ S E, CI S (k + 1) 0 1 3 → RWs S E (k + 1) → E.length = 2 * k + 3 → kd S 0 ≠ 8 → Gc l D ad tc L xs sF 147 [(6, .int (nI (k + 1))), (5, .ref 85), (4, .int (nI 7)), (3, .int (nI 11)), (2, .int (nI 3)), (1, .ref 0), (0, .ref 1)] [] (wd S E, s)) (hk : k < 11) (h : CI S1 (k + 1) 0 1 3) (hR : RWs S E k) (hKS : KS S S1 k) (hE : E.length = 2 * k + 1) (h8 : kd S1 0 ≠ 8) (hkd : kd S1 k = K) (h0 : f 0 = K) (h3 : K = 7 → f 3 = nI (sV S1 k) ∧ sV S1 k < 3) : Gc l D ad tc L xs sF 325 [(9, .int K), (10, .ref (2 * k + 2 + 84 + 1)), (7, .int x), (6, .int (nI k)), (5, .ref 85), (4, .int (nI 7)), (3, .int (nI 11)), (2, .int (nI 3)), (1, .ref 0), (0, .ref 1)] [] (wd S1 ((E ++ [c]) ++ [.inl (0, 7, .inl f)]), s) := by
  have m1 : Gc l D ad tc L xs sF 348 [(9, .int K), (10, .ref (2 * k + 2 + 84 + 1)), (7, .int x), (6, .int (nI k)), (5, .ref 85), (4, .int (nI 7)), (3, .int (nI 11)), (2, .int (nI 3)), (1, .ref 0), (0, .ref 1)] [.int (-1), .int (nI 1), .ref (2 * k + 2 + 84 + 1)] (wd S1 ((E ++ [c]) ++ [.inl (0, 7, .inl f)]), s) := ch_348 (c := c) (x := x) hK hk h hR hKS hE h8 hkd h0 h3
  by_cases k0 : K = 0
  · refine Gc.of (fun r h' z => ?_) m1
    refine rn_aload dL_chip_325 rfl ?_
    refine rn_iconst (v := nI 1) dL_chip_327 (by decide) ?_
    refine rn_iload dL_chip_328 rfl ?_
    refine rn_if_eq (tgt := 340) dL_chip_330 rfl (fun _ => ?_) (fun q1 => absurd (by exact k0) q1)
    refine rn_iconst (v := (-1)) dL_chip_340 rfl ?_
    refine rn_goto (tgt := 348) dL_chip_341 rfl ?_
    exact rn_subg rfl z
  · by_cases k6 : K = 6
    · refine Gc.of (fun r h' z => ?_) m1
      refine rn_aload dL_chip_325 rfl ?_
      refine rn_iconst (v := nI 1) dL_chip_327 (by decide) ?_
      refine rn_iload dL_chip_328 rfl ?_
      refine rn_if_eq (tgt := 340) dL_chip_330 rfl (fun q1 => absurd q1 (by exact k0)) (fun _ => ?_)
      refine rn_iload dL_chip_333 rfl ?_
      refine rn_bipush (v := 6) dL_chip_335 rfl ?_
      refine rn_icmp_ne (tgt := 344) dL_chip_337 rfl (fun q2 => absurd q2 (by exact fun z9 => z9 k6)) (fun _ => ?_)
      refine rn_iconst (v := (-1)) dL_chip_340 rfl ?_
      refine rn_goto (tgt := 348) dL_chip_341 rfl ?_
      exact rn_subg rfl z
    · refine Gc.of (fun r h' z => ?_) (ch_348 (c := c) (f := f) (x := x) (v := f 1) hK hk h hR hKS hE h8 hkd h0 h3)
      refine rn_aload dL_chip_325 rfl ?_
      refine rn_iconst (v := nI 1) dL_chip_327 (by decide) ?_
      refine rn_iload dL_chip_328 rfl ?_
      refine rn_if_eq (tgt := 340) dL_chip_330 rfl (fun q1 => absurd q1 (by exact k0)) (fun _ => ?_)
      refine rn_iload dL_chip_333 rfl ?_
      refine rn_bipush (v := 6) dL_chip_335 rfl ?_
      refine rn_icmp_ne (tgt := 344) dL_chip_337 rfl (fun _ => ?_) (fun q2 => absurd q2 (by exact k6))
      refine rn_aload dL_chip_344 rfl ?_
      refine rn_iconst (v := nI 1) dL_chip_346 (by decide) ?_
      refine rnL_iald (by first | omega | (simp only [List.length_append, List.length_cons, List.length_nil]; omega)) dL_chip_347 (vp_in_nI (by decide) (by decide)) ?_
      rw [nI_clamp (by decide)]
      exact rn_subg rfl z
theorem ch_241 {kf : Nat → Int32} (hK : ∀ S E, CI S (k + 1) 0 1 3 → RWs S E (k + 1) → E.length = 2 * k + 3 → kd S 0 ≠ 8 → Gc l D ad tc L xs sF 147 [(6, .int (nI (k + 1))), (5, .ref 85), (4, .int (nI 7)), (3, .int (nI 11)), (2, .int (nI 3)), (1, .ref 0), (0, .ref 1)] [] (wd S E, s + 9 + 7)) (hk : k < 11) (h : CI S k 0 1 3) (hR : RWs S E k) (hE : E.length = 2 * k + 1) (h8 : kd S 0 ≠ 8) (hKV : KV K) (hk2 : K ≠ 0 → K ≠ 6 → 2 ≤ k) : Gc l D ad tc L xs sF 241 [(7, .int x), (8, .ref (2 * k + 1 + 84 + 1)), (6, .int (nI k)), (5, .ref 85), (4, .int (nI 7)), (3, .int (nI 11)), (2, .int (nI 3)), (1, .ref 0), (0, .ref 1)] [.int K] (wd S (E ++ [.inl (0, 9, .inl kf)]), s + 9) := by
  obtain ⟨a, a1, a2, a3⟩ := c_L_inner (l := l) (D := D) (ad := ad) (tc := tc) (L := L) (xs := xs) (S := S) (E := ((E ++ [.inl (0, 9, .inl kf)]) ++ [.inl (0, 7, .inl (upd (fun _ => 0) 0 K))])) (sl := s + 9 + 7) (x := x >>> (3 &&& 31)) (RWs_app (RWs_app hR)) (by omega) h8
  obtain ⟨b, b1, b2, b3⟩ := c_L_inner (l := l) (D := D) (ad := ad) (tc := tc) (L := L) (xs := xs) (S := S) (E := ((E ++ [.inl (0, 9, .inl kf)]) ++ [.inl (0, 7, .inl (upd (upd (fun _ => 0) 0 K) 1 (nI a)))])) (sl := s + 9 + 7) (x := x >>> (5 &&& 31)) (RWs_app (RWs_app hR)) (by omega) h8
  obtain ⟨S1, c1, c2, c3, c4, c5⟩ := k_node (l := l) (D := D) (ad := ad) (tc := tc) (L := L) (xs := xs) (E := ((E ++ [.inl (0, 9, .inl kf)]) ++ [.inl (0, 7, .inl (upd (upd (upd (upd (upd (upd (upd (fun _ => 0) 0 K) 1 (nI a)) 2 (nI b)) 3 (nI (bel (x >>> (2 &&& 31)) 3))) 4 1) 5 4) 6 0))])) (sl := s + 9 + 7) (K := K) (a := a) (b := b) (v := (bel (x >>> (2 &&& 31)) 3)) h (by omega) hKV (fun z1 z2 => by have := hk2 z1 z2; omega) ⟨a2, b2⟩ (bel_lt (by decide))
  have h81 : kd S1 0 ≠ 8 := by
    by_cases k0 : k = 0
    · subst k0
      rw [c3]
      rcases (show K = 0 ∨ K = 6 from Classical.byContradiction fun q => by have := hk2 (fun z => q (Or.inl z)) (fun z => q (Or.inr z)); omega) with rfl | rfl <;> decide
    · rw [(c2 0 (by omega)).1]
      exact h8
  refine Gc.of (fun r h' z => ?_) (ch_325 (c := .inl (0, 9, .inl kf)) (x := x) (K := K) (f := (upd (upd (upd (upd (upd (upd (upd (fun _ => 0) 0 K) 1 (nI a)) 2 (nI b)) 3 (nI (bel (x >>> (2 &&& 31)) 3))) 4 1) 5 4) 6 0)) hK hk c1 hR c2 hE h81 c3 rfl (fun q => by rw [c4 q]; exact ⟨rfl, bel_lt (by decide)⟩))
  refine rn_istore dL_chip_241 (by decide) rfl ?_
  refine rn_bipush (v := 7) dL_chip_243 rfl ?_
  refine rnL_new (a := 2 * k + 2 + 84 + 1) (n := 7) (by first | omega | (simp only [List.length_append, List.length_cons, List.length_nil]; omega)) dL_chip_245 (by decide) (by decide) (by decide) ?_
  refine rn_dup dL_chip_247 rfl ?_
  refine rn_iconst (v := nI 0) dL_chip_248 (by decide) ?_
  refine rn_iload dL_chip_249 rfl ?_
  refine rnL_ias (by first | omega | (simp only [List.length_append, List.length_cons, List.length_nil]; omega)) dL_chip_251 (vp_in_nI (by decide) (by decide)) ?_
  rw [nI_clamp (by decide)]
  refine rn_dup dL_chip_252 rfl ?_
  refine rn_iconst (v := nI 1) dL_chip_253 (by decide) ?_
  refine rn_aload dL_chip_254 rfl ?_
  refine rn_iload dL_chip_256 rfl ?_
  refine rn_iload dL_chip_258 rfl ?_
  refine rn_iconst (v := 3) dL_chip_260 rfl ?_
  refine rn_ishr dL_chip_261 ?_
  refine rn_callS dL_chip_262 cs_L_31 a3 rfl (by decide) (by decide) rfl (Nat.le_of_ble_eq_true rfl) ?_
  refine rnL_ias (by first | omega | (simp only [List.length_append, List.length_cons, List.length_nil]; omega)) dL_chip_265 (vp_in_nI (by decide) (by decide)) ?_
  rw [nI_clamp (by decide)]
  refine rn_dup dL_chip_266 rfl ?_
  refine rn_iconst (v := nI 2) dL_chip_267 (by decide) ?_
  refine rn_aload dL_chip_268 rfl ?_
  refine rn_iload dL_chip_270 rfl ?_
  refine rn_iload dL_chip_272 rfl ?_
  refine rn_iconst (v := 5) dL_chip_274 rfl ?_
  refine rn_ishr dL_chip_275 ?_
  refine rn_callS dL_chip_276 cs_L_31 b3 rfl (by decide) (by decide) rfl (Nat.le_of_ble_eq_true rfl) ?_
  refine rnL_ias (by first | omega | (simp only [List.length_append, List.length_cons, List.length_nil]; omega)) dL_chip_279 (vp_in_nI (by decide) (by decide)) ?_
  rw [nI_clamp (by decide)]
  refine rn_dup dL_chip_280 rfl ?_
  refine rn_iconst (v := nI 3) dL_chip_281 (by decide) ?_
  refine rn_iload dL_chip_282 rfl ?_
  refine rn_iconst (v := 2) dL_chip_284 rfl ?_
  refine rn_ishr dL_chip_285 ?_
  refine rn_iconst (v := nI 3) dL_chip_286 (by decide) ?_
  refine rn_callS dL_chip_287 cs_L_15 (c_L_below (by decide) (by decide)) rfl (by decide) (by decide) rfl (Nat.le_of_ble_eq_true rfl) ?_
  refine rnL_ias (by first | omega | (simp only [List.length_append, List.length_cons, List.length_nil]; omega)) dL_chip_290 (vp_in_nI (by decide) (by decide)) ?_
  rw [nI_clamp (by decide)]
  refine rn_dup dL_chip_291 rfl ?_
  refine rn_iconst (v := nI 4) dL_chip_292 (by decide) ?_
  refine rn_iconst (v := 1) dL_chip_293 rfl ?_
  refine rnL_ias (by first | omega | (simp only [List.length_append, List.length_cons, List.length_nil]; omega)) dL_chip_294 (vp_in_nI (by decide) (by decide)) ?_
  rw [nI_clamp (by decide)]
  refine rn_dup dL_chip_295 rfl ?_
  refine rn_iconst (v := nI 5) dL_chip_296 (by decide) ?_
  refine rn_iconst (v := 4) dL_chip_297 rfl ?_
  refine rnL_ias (by first | omega | (simp only [List.length_append, List.length_cons, List.length_nil]; omega)) dL_chip_298 (vp_in_nI (by decide) (by decide)) ?_
  rw [nI_clamp (by decide)]
  refine rn_dup dL_chip_299 rfl ?_
  refine rn_bipush (v := nI 6) dL_chip_300 (by decide) ?_
  refine rn_iconst (v := 0) dL_chip_302 rfl ?_
  refine rnL_ias (by first | omega | (simp only [List.length_append, List.length_cons, List.length_nil]; omega)) dL_chip_303 (vp_in_nI (by decide) (by decide)) ?_
  rw [nI_clamp (by decide)]
  refine rn_astore dL_chip_304 (by decide) rfl ?_
  refine rn_aload_n dL_chip_306 rfl ?_
  refine rn_iload dL_chip_307 rfl ?_
  refine rn_aload dL_chip_309 rfl ?_
  refine rn_iconst (v := nI 1) dL_chip_311 (by decide) ?_
  refine rnL_iald (by first | omega | (simp only [List.length_append, List.length_cons, List.length_nil]; omega)) dL_chip_312 (vp_in_nI (by decide) (by decide)) ?_
  rw [nI_clamp (by decide)]
  refine rn_topi (y := nI a) rfl ?_
  refine rn_aload dL_chip_313 rfl ?_
  refine rn_iconst (v := nI 2) dL_chip_315 (by decide) ?_
  refine rnL_iald (by first | omega | (simp only [List.length_append, List.length_cons, List.length_nil]; omega)) dL_chip_316 (vp_in_nI (by decide) (by decide)) ?_
  rw [nI_clamp (by decide)]
  refine rn_topi (y := nI b) rfl ?_
  refine rn_aload dL_chip_317 rfl ?_
  refine rn_iconst (v := nI 3) dL_chip_319 (by decide) ?_
  refine rnL_iald (by first | omega | (simp only [List.length_append, List.length_cons, List.length_nil]; omega)) dL_chip_320 (vp_in_nI (by decide) (by decide)) ?_
  rw [nI_clamp (by decide)]
  refine rn_topi (y := nI (bel (x >>> (2 &&& 31)) 3)) rfl ?_
  refine rn_callV dL_chip_321 cv_L_35 c5 rfl h_SH rfl rfl (by decide) (by decide) rfl (Nat.le_of_ble_eq_true rfl) ?_
  refine rn_pop dL_chip_324 rfl ?_
  exact rn_subg rfl z
end CH2
