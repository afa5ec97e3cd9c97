/-! the law's chip: rows of int rows at the end of the cells -/
section CH
variable {l : Launch} {D : va_G} {ad : Nat → Nat} {tc : Nat → ClassId} {L : Nat} {xs : Nat → Int32} {M : j_M} {d lo pc : Nat} {lv : j_L} {st : List Value} {h' : j_H} {r : Option Value} {S : jS} {E : List j_C} {sl a n : Nat} {f : Nat → Int32} {i x : Int32}
theorem la_at {E : List j_C} {c : j_C} : (E ++ [c])[E.length]? = some c := by simp
theorem la_set {E : List j_C} {c c' : j_C} : (E ++ [c]).set E.length c' = E ++ [c'] := by simp
theorem rnL_ias (ha : E.length + 85 = a) (hd : decode M.2.1 pc = .ok (.iastore, 1)) (hin : vp_in i n)
    (kk : Rn l D ad tc L xs M d lo (pc + 1) lv st (wd S (E ++ [.inl (0, n, .inl (upd f i.toNatClampNeg x))]), sl) r h') : Rn l D ad tc L xs M d lo pc lv (.int x :: .int i :: .ref a :: st) (wd S (E ++ [.inl (0, n, .inl f)]), sl) r h' := by
  subst ha
  refine rn_iastore (h := (wd S (E ++ [.inl (0, n, .inl f)]), sl)) (a := E.length + 84) hd (wd_at2 la_at) rfl hin ?_
  show Rn l D ad tc L xs M d lo (pc + 1) lv st ((wd S (E ++ [.inl (0, n, .inl f)])).set (E.length + 84) _, sl) r h'
  rw [wd_set2, la_set]
  exact kk
theorem rnL_iald (ha : E.length + 85 = a) (hd : decode M.2.1 pc = .ok (.iaload, 1)) (hin : vp_in i n)
    (kk : Rn l D ad tc L xs M d lo (pc + 1) lv (.int (f i.toNatClampNeg) :: st) (wd S (E ++ [.inl (0, n, .inl f)]), sl) r h') : Rn l D ad tc L xs M d lo pc lv (.int i :: .ref a :: st) (wd S (E ++ [.inl (0, n, .inl f)]), sl) r h' := by
  subst ha
  exact rn_iaload (h := (wd S (E ++ [.inl (0, n, .inl f)]), sl)) (a := E.length + 84) hd (wd_at2 la_at) rfl hin kk
theorem rnL_new {m : Int32} (ha : E.length + 85 = a) (hd : decode M.2.1 pc = .ok (.newarray .int, 2)) (hn : ¬ m < 0) (hN : m.toNatClampNeg = n) (hby : n * 4 ≤ 536870912)
    (kk : Rn l D ad tc L xs M d lo (pc + 2) lv (.ref a :: st) (wd S (E ++ [.inl (0, n, .inl (fun _ => 0))]), sl + n) r h') : Rn l D ad tc L xs M d lo pc lv (.int m :: st) (wd S E, sl) r h' := by
  subst ha
  refine rn_newarray (t := 0) (N := n) (f := (n, .inl (fun _ => 0))) hd rfl wd_210 hn hN hby (fun _ => rfl) (fun _ _ => rfl) ?_
  show Rn l D ad tc L xs M d lo (pc + 2) lv (.ref ((wd S E).length + 1) :: st) (wd S E ++ [.inl (0, n, .inl (fun _ => 0))], sl + n) r h'
  rw [wd_app, wd_len, show 84 + E.length + 1 = E.length + 85 by omega]
  exact kk
/-- an entry of a row that stands among the others -/
theorem rnE_ias {q : Nat} (hd : decode M.2.1 pc = .ok (.iastore, 1)) (he : E[q]? = some (rwC f)) (hin : vp_in i 7)
    (kk : Rn l D ad tc L xs M d lo (pc + 1) lv st (wd S (E.set q (rwC (upd f i.toNatClampNeg x))), sl) r h') : Rn l D ad tc L xs M d lo pc lv (.int x :: .int i :: .ref (q + 84 + 1) :: st) (wd S E, sl) r h' := by
  refine rn_iastore (h := (wd S E, sl)) (a := q + 84) hd (wd_at2 he) rfl hin ?_
  show Rn l D ad tc L xs M d lo (pc + 1) lv st ((wd S E).set (q + 84) _, sl) r h'
  rw [wd_set2]
  exact kk
theorem rnE_iald {q : Nat} (hd : decode M.2.1 pc = .ok (.iaload, 1)) (he : E[q]? = some (rwC f)) (hin : vp_in i 7)
    (kk : Rn l D ad tc L xs M d lo (pc + 1) lv (.int (f i.toNatClampNeg) :: st) (wd S E, sl) r h') : Rn l D ad tc L xs M d lo pc lv (.int i :: .ref (q + 84 + 1) :: st) (wd S E, sl) r h' :=
  rn_iaload (h := (wd S E, sl)) (a := q + 84) hd (wd_at2 he) rfl hin kk
theorem rnE_aald {k n : Nat} (hR : RWs S E n) (hk : k < n) (hn : n ≤ 11) (hd : decode M.2.1 pc = .ok (.aaload, 1))
    (kk : Rn l D ad tc L xs M d lo (pc + 1) lv (.ref (2 * k + 2 + 84 + 1) :: st) (wd S E, sl) r h') : Rn l D ad tc L xs M d lo pc lv (.int (nI k) :: .ref 85 :: st) (wd S E, sl) r h' :=
  rn_aaloadI (a := 0 + 84) hd (wd_at2 hR.1) (vp_in_nI (by omega) (by decide)) (by rw [nI_clamp (by omega)]; exact if_pos hk) kk
theorem mkF_up {k : Nat} : va_up (mkF k) k (some (2 * k + 2 + 84 + 1)) = mkF (k + 1) := by
  funext j
  unfold va_up mkF
  by_cases h : j = k
  · subst h
    rw [if_pos rfl, if_pos (by omega)]
  · rw [if_neg h]
    by_cases h2 : j < k
    · rw [if_pos h2, if_pos (by omega)]
    · rw [if_neg h2, if_neg (by omega)]
theorem RWs_set {k i : Nat} {f f' : Nat → Int32} (h : RWs S E k) (hi : i < k) (he : E[2 * i + 2]? = some (rwC f)) (h0 : f' 0 = f 0) (h3 : f' 3 = f 3) : RWs S (E.set (2 * i + 2) (rwC f')) k := by
  refine ⟨?_, fun j hj => ?_⟩
  · rw [List.getElem?_set_ne (by omega)]
    exact h.1
  · obtain ⟨p, p1, p2, p3⟩ := h.2 j hj
    by_cases e : i = j
    · subst e
      have hpf : p = f := by
        have := Option.some.inj (p1.symm.trans he)
        unfold rwC at this
        simpa using this
      subst hpf
      refine ⟨f', ?_, h0.trans p2, fun q => h3.trans (p3 q)⟩
      rw [List.getElem?_set_self (List.getElem?_eq_some_iff.mp he).1]
    · refine ⟨p, ?_, p2, p3⟩
      rw [List.getElem?_set_ne (by omega)]
      exact p1
theorem RWs_KS {S' : jS} {k m : Nat} (h : RWs S E k) (hk : KS S S' m) (hm : k ≤ m) : RWs S' E k := by
  refine ⟨h.1, fun j hj => ?_⟩
  obtain ⟨p, p1, p2, p3⟩ := h.2 j hj
  have q := hk j (by omega)
  exact ⟨p, p1, by rw [q.1]; exact p2, fun z => by rw [q.2]; exact p3 (q.1.symm.trans z)⟩
theorem RWs_new {S' : jS} {k : Nat} {c : j_C} {f : Nat → Int32} (h : RWs S E k) (hE : E.length = 2 * k + 1) (hk : KS S S' k) (h0 : f 0 = kd S' k) (h3 : kd S' k = 7 → f 3 = nI (sV S' k)) : RWs S' (((E ++ [c]) ++ [rwC f]).set 0 (mdC (k + 1))) (k + 1) := by
  have hl : (E ++ [c]).length = 2 * k + 2 := by simp [hE]
  refine ⟨?_, fun j hj => ?_⟩
  · rw [List.getElem?_set_self (by simp)]
  · rw [List.getElem?_set_ne (by omega)]
    by_cases e : j = k
    · subst e
      refine ⟨f, ?_, h0, h3⟩
      rw [← hl]
      exact la_at
    · obtain ⟨p, p1, p2, p3⟩ := (RWs_app (T := [c] ++ [rwC f]) h).2 j (by omega)
      have q := hk j (by omega)
      exact ⟨p, by rw [List.append_assoc]; exact p1, by rw [q.1]; exact p2, fun z => by rw [q.2]; exact p3 (q.1.symm.trans z)⟩
/-- how chip goes on from a point: to rows of eleven nodes that are told -/
def Gc (l : Launch) (D : va_G) (ad : Nat → Nat) (tc : Nat → ClassId) (L : Nat) (xs : Nat → Int32) (sF : Nat) (pc : Nat) (lv : j_L) (st : List Value) (h : j_H) : Prop := ∃ S' E', (CI S' 11 0 1 3 ∧ RWs S' E' 11 ∧ E'.length = 23) ∧ Rn l D ad tc L xs mL_chip 6 130 pc lv st h (some (.ref 85)) (wd S' E', sF)
theorem Gc.of {sF pc2 : Nat} {lv2 : j_L} {st2 : List Value} {h h2 : j_H} (f : ∀ (r : Option Value) (h' : j_H), Rn l D ad tc L xs mL_chip 6 130 pc2 lv2 st2 h2 r h' → Rn l D ad tc L xs mL_chip 6 130 pc lv st h r h') (k : Gc l D ad tc L xs sF pc2 lv2 st2 h2) : Gc l D ad tc L xs sF pc lv st h := by
  obtain ⟨S', E', q, z⟩ := k
  exact ⟨S', E', q, f _ _ z⟩
end CH
section CH2
variable {l : Launch} {D : va_G} {ad : Nat → Nat} {tc : Nat → ClassId} {L : Nat} {xs : Nat → Int32} {S : jS} {E : List j_C} {s sF k : Nat} {x K : Int32}

theorem ch_497 (hK : ∀ S E, CI S (k + 1) 0 1 3 → RWs S E (k + 1) → E.length = 2 * k + 3 → kd S 0 ≠ 8 → Gc l D ad tc L xs sF 147 [(6, .int (nI (k + 1))), (5, .ref 85), (4, .int (nI 7)), (3, .int (nI 11)), (2, .int (nI 3)), (1, .ref 0), (0, .ref 1)] [] (wd S E, s)) (hk : k < 11) (h : CI S (k + 1) 0 1 3) (hR : RWs S E (k + 1)) (hE : E.length = 2 * k + 3) (h8 : kd S 0 ≠ 8) : Gc l D ad tc L xs sF 497 [(9, .int K), (10, .ref (2 * k + 2 + 84 + 1)), (7, .int x), (6, .int (nI k)), (5, .ref 85), (4, .int (nI 7)), (3, .int (nI 11)), (2, .int (nI 3)), (1, .ref 0), (0, .ref 1)] [] (wd S E, s) := by
  refine Gc.of (fun r h' z => ?_) (hK S E h hR hE h8)
  refine rn_iinc dL_chip_497 rfl (nI_1 _) (by decide) rfl ?_
  refine rn_goto (tgt := 147) dL_chip_500 rfl ?_
  exact rn_subg rfl z
theorem ch_474 (hK : ∀ S E, CI S (k + 1) 0 1 3 → RWs S E (k + 1) → E.length = 2 * k + 3 → kd S 0 ≠ 8 → Gc l D ad tc L xs sF 147 [(6, .int (nI (k + 1))), (5, .ref 85), (4, .int (nI 7)), (3, .int (nI 11)), (2, .int (nI 3)), (1, .ref 0), (0, .ref 1)] [] (wd S E, s)) (hk : k < 11) (h : CI S (k + 1) 0 1 3) (hR : RWs S E (k + 1)) (hE : E.length = 2 * k + 3) (h8 : kd S 0 ≠ 8) (hkd : kd S k = 6 ∨ kd S k = 7) : Gc l D ad tc L xs sF 474 [(9, .int K), (10, .ref (2 * k + 2 + 84 + 1)), (7, .int x), (6, .int (nI k)), (5, .ref 85), (4, .int (nI 7)), (3, .int (nI 11)), (2, .int (nI 3)), (1, .ref 0), (0, .ref 1)] [] (wd S E, s) := by
  obtain ⟨f, e1, e2, e3⟩ := hR.2 k (by omega)
  obtain ⟨S1, v1, c1, c2, c3⟩ := k_skew (l := l) (D := D) (ad := ad) (tc := tc) (L := L) (xs := xs) (sl := s) (E := E.set (2 * k + 2) (rwC (upd f 6 (nI (bel (x >>> (8 &&& 31)) 21))))) (w := bel (x >>> (8 &&& 31)) 21) h (i := k) (by omega) hkd (by have := bel_lt (v := x >>> (8 &&& 31)) (n := 21) (by decide); omega)
  refine Gc.of (fun r h' z => ?_) (ch_497 (x := x) (K := K) hK hk c1 (RWs_KS (RWs_set hR (by omega) e1 rfl rfl) c2 (by omega)) (by rw [List.length_set]; exact hE) (by rw [(c2 0 (by omega)).1]; exact h8))
  refine rn_aload_n dL_chip_474 rfl ?_
  refine rn_iload dL_chip_475 rfl ?_
  refine rn_aload dL_chip_477 rfl ?_
  refine rn_bipush (v := nI 6) dL_chip_479 (by decide) ?_
  refine rn_iload dL_chip_481 rfl ?_
  refine rn_bipush (v := 8) dL_chip_483 rfl ?_
  refine rn_ishr dL_chip_485 ?_
  refine rn_bipush (v := nI 21) dL_chip_486 (by decide) ?_
  refine rn_callS dL_chip_488 cs_L_15 (c_L_below (by decide) (by decide)) rfl (by decide) (by decide) rfl (Nat.le_of_ble_eq_true rfl) ?_
  refine rn_dup_x2 dL_chip_491 rfl rfl rfl ?_
  refine rnE_ias dL_chip_492 e1 (vp_in_nI (by decide) (by decide)) ?_
  rw [nI_clamp (by decide)]
  refine rn_callV dL_chip_493 cv_L_44 c3 rfl h_SH rfl rfl (by decide) (by decide) rfl (Nat.le_of_ble_eq_true rfl) ?_
  refine rn_pop dL_chip_496 rfl ?_
  exact rn_subg rfl z
theorem ch_449 (hK : ∀ S E, CI S (k + 1) 0 1 3 → RWs S E (k + 1) → E.length = 2 * k + 3 → kd S 0 ≠ 8 → Gc l D ad tc L xs sF 147 [(6, .int (nI (k + 1))), (5, .ref 85), (4, .int (nI 7)), (3, .int (nI 11)), (2, .int (nI 3)), (1, .ref 0), (0, .ref 1)] [] (wd S E, s)) (hk : k < 11) (h : CI S (k + 1) 0 1 3) (hR : RWs S E (k + 1)) (hE : E.length = 2 * k + 3) (h8 : kd S 0 ≠ 8) (hkd : kd S k = K) : Gc l D ad tc L xs sF 449 [(9, .int K), (10, .ref (2 * k + 2 + 84 + 1)), (7, .int x), (6, .int (nI k)), (5, .ref 85), (4, .int (nI 7)), (3, .int (nI 11)), (2, .int (nI 3)), (1, .ref 0), (0, .ref 1)] [] (wd S E, s) := by
  by_cases h67 : K = 6 ∨ K = 7
  · have G463 : Gc l D ad tc L xs sF 463 [(9, .int K), (10, .ref (2 * k + 2 + 84 + 1)), (7, .int x), (6, .int (nI k)), (5, .ref 85), (4, .int (nI 7)), (3, .int (nI 11)), (2, .int (nI 3)), (1, .ref 0), (0, .ref 1)] [] (wd S E, s) := by
      by_cases hb : bel (x >>> (5 &&& 31)) 2 = 0
      · refine Gc.of (fun r h' z => ?_) (ch_474 (x := x) (K := K) hK hk h hR hE h8 (by rw [hkd]; exact h67))
        refine rn_iload dL_chip_463 rfl ?_
        refine rn_iconst (v := 5) dL_chip_465 rfl ?_
        refine rn_ishr dL_chip_466 ?_
        refine rn_iconst (v := nI 2) dL_chip_467 (by decide) ?_
        refine rn_callS dL_chip_468 cs_L_15 (c_L_below (by decide) (by decide)) rfl (by decide) (by decide) rfl (Nat.le_of_ble_eq_true rfl) ?_
        rw [hb]
        refine rn_if_ne (tgt := 497) dL_chip_471 rfl (fun q1 => absurd q1 (by exact fun z9 => z9 nI_0)) (fun _ => ?_)
        exact rn_subg rfl z
      · refine Gc.of (fun r h' z => ?_) (ch_497 (x := x) (K := K) hK hk h hR hE h8)
        refine rn_iload dL_chip_463 rfl ?_
        refine rn_iconst (v := 5) dL_chip_465 rfl ?_
        refine rn_ishr dL_chip_466 ?_
        refine rn_iconst (v := nI 2) dL_chip_467 (by decide) ?_
        refine rn_callS dL_chip_468 cs_L_15 (c_L_below (by decide) (by decide)) rfl (by decide) (by decide) rfl (Nat.le_of_ble_eq_true rfl) ?_
        refine rn_if_ne (tgt := 497) dL_chip_471 rfl (fun _ => ?_) (fun q1 => absurd q1 (by exact nI_ne0 (by omega) (by have := bel_lt (v := x >>> (5 &&& 31)) (n := 2) (by decide); omega)))
        exact rn_subg rfl z
    rcases h67 with rfl | rfl
    · refine Gc.of (fun r h' z => ?_) G463
      refine rn_iload dL_chip_449 rfl ?_
      refine rn_bipush (v := 6) dL_chip_451 rfl ?_
      refine rn_icmp_eq (tgt := 463) dL_chip_453 rfl (fun _ => ?_) (fun q1 => absurd (by rfl) q1)
      exact rn_subg rfl z
    · refine Gc.of (fun r h' z => ?_) G463
      refine rn_iload dL_chip_449 rfl ?_
      refine rn_bipush (v := 6) dL_chip_451 rfl ?_
      refine rn_icmp_eq (tgt := 463) dL_chip_453 rfl (fun q1 => absurd q1 (by decide)) (fun _ => ?_)
      refine rn_iload dL_chip_456 rfl ?_
      refine rn_bipush (v := 7) dL_chip_458 rfl ?_
      refine rn_icmp_ne (tgt := 497) dL_chip_460 rfl (fun q2 => absurd q2 (by exact fun z9 => z9 rfl)) (fun _ => ?_)
      exact rn_subg rfl z
  · refine Gc.of (fun r h' z => ?_) (ch_497 (x := x) (K := K) hK hk h hR hE h8)
    refine rn_iload dL_chip_449 rfl ?_
    refine rn_bipush (v := 6) dL_chip_451 rfl ?_
    refine rn_icmp_eq (tgt := 463) dL_chip_453 rfl (fun q1 => absurd q1 (by exact fun z9 => h67 (Or.inl z9))) (fun _ => ?_)
    refine rn_iload dL_chip_456 rfl ?_
    refine rn_bipush (v := 7) dL_chip_458 rfl ?_
    refine rn_icmp_ne (tgt := 497) dL_chip_460 rfl (fun _ => ?_) (fun q2 => absurd q2 (by exact fun z9 => h67 (Or.inr z9)))
    exact rn_subg rfl z
theorem ch_415 (hK : ∀ S E, CI S (k + 1) 0 1 3 → RWs S E (k + 1) → E.length = 2 * k + 3 → kd S 0 ≠ 8 → Gc l D ad tc L xs sF 147 [(6, .int (nI (k + 1))), (5, .ref 85), (4, .int (nI 7)), (3, .int (nI 11)), (2, .int (nI 3)), (1, .ref 0), (0, .ref 1)] [] (wd S E, s)) (hk : k < 11) (h : CI S (k + 1) 0 1 3) (hR : RWs S E (k + 1)) (hE : E.length = 2 * k + 3) (h8 : kd S 0 ≠ 8) (hkd : kd S k = K) : Gc l D ad tc L xs sF 415 [(9, .int K), (10, .ref (2 * k + 2 + 84 + 1)), (7, .int x), (6, .int (nI k)), (5, .ref 85), (4, .int (nI 7)), (3, .int (nI 11)), (2, .int (nI 3)), (1, .ref 0), (0, .ref 1)] [] (wd S E, s) := by
  by_cases hb : bel (x >>> (7 &&& 31)) 3 = 0
  · obtain ⟨f, e1, e2, e3⟩ := hR.2 k (by omega)
    obtain ⟨S1, v1, c1, c2, c3⟩ := k_wire (l := l) (D := D) (ad := ad) (tc := tc) (L := L) (xs := xs) (sl := s) (E := E.set (2 * k + 2) (rwC (upd f 5 (nI (bel (x >>> (9 &&& 31)) 81))))) (q := bel (x >>> (9 &&& 31)) 81) h (i := k) (by omega) (by have := bel_lt (v := x >>> (9 &&& 31)) (n := 81) (by decide); omega)
    refine Gc.of (fun r h' z => ?_) (ch_449 (x := x) (K := K) hK hk c1 (RWs_KS (RWs_set hR (by omega) e1 rfl rfl) c2 (by omega)) (by rw [List.length_set]; exact hE) (by rw [(c2 0 (by omega)).1]; exact h8) (by rw [(c2 k (by omega)).1]; exact hkd))
    refine rn_iload dL_chip_415 rfl ?_
    refine rn_bipush (v := 7) dL_chip_417 rfl ?_
    refine rn_ishr dL_chip_419 ?_
    refine rn_iconst (v := nI 3) dL_chip_420 (by decide) ?_
    refine rn_callS dL_chip_421 cs_L_15 (c_L_below (by decide) (by decide)) rfl (by decide) (by decide) rfl (Nat.le_of_ble_eq_true rfl) ?_
    rw [hb]
    refine rn_if_ne (tgt := 449) dL_chip_424 rfl (fun q1 => absurd q1 (by exact fun z9 => z9 nI_0)) (fun _ => ?_)
    refine rn_aload_n dL_chip_427 rfl ?_
    refine rn_iload dL_chip_428 rfl ?_
    refine rn_aload dL_chip_430 rfl ?_
    refine rn_iconst (v := nI 5) dL_chip_432 (by decide) ?_
    refine rn_iload dL_chip_433 rfl ?_
    refine rn_bipush (v := 9) dL_chip_435 rfl ?_
    refine rn_ishr dL_chip_437 ?_
    refine rn_bipush (v := nI 81) dL_chip_438 (by decide) ?_
    refine rn_callS dL_chip_440 cs_L_15 (c_L_below (by decide) (by decide)) rfl (by decide) (by decide) rfl (Nat.le_of_ble_eq_true rfl) ?_
    refine rn_dup_x2 dL_chip_443 rfl rfl rfl ?_
    refine rnE_ias dL_chip_444 e1 (vp_in_nI (by decide) (by decide)) ?_
    rw [nI_clamp (by decide)]
    refine rn_callV dL_chip_445 cv_L_41 c3 rfl h_SH rfl rfl (by decide) (by decide) rfl (Nat.le_of_ble_eq_true rfl) ?_
    refine rn_pop dL_chip_448 rfl ?_
    exact rn_subg rfl z
  · refine Gc.of (fun r h' z => ?_) (ch_449 (x := x) (K := K) hK hk h hR hE h8 hkd)
    refine rn_iload dL_chip_415 rfl ?_
    refine rn_bipush (v := 7) dL_chip_417 rfl ?_
    refine rn_ishr dL_chip_419 ?_
    refine rn_iconst (v := nI 3) dL_chip_420 (by decide) ?_
    refine rn_callS dL_chip_421 cs_L_15 (c_L_below (by decide) (by decide)) rfl (by decide) (by decide) rfl (Nat.le_of_ble_eq_true rfl) ?_
    refine rn_if_ne (tgt := 449) dL_chip_424 rfl (fun _ => ?_) (fun q1 => absurd q1 (by exact nI_ne0 (by omega) (by have := bel_lt (v := x >>> (7 &&& 31)) (n := 3) (by decide); omega)))
    exact rn_subg rfl z
theorem ch_381 (hK : ∀ S E, CI S (k + 1) 0 1 3 → RWs S E (k + 1) → E.length = 2 * k + 3 → kd S 0 ≠ 8 → Gc l D ad tc L xs sF 147 [(6, .int (nI (k + 1))), (5, .ref 85), (4, .int (nI 7)), (3, .int (nI 11)), (2, .int (nI 3)), (1, .ref 0), (0, .ref 1)] [] (wd S E, s)) (hk : k < 11) (h : CI S (k + 1) 0 1 3) (hR : RWs S E (k + 1)) (hE : E.length = 2 * k + 3) (h8 : kd S 0 ≠ 8) (hkd : kd S k = K) : Gc l D ad tc L xs sF 381 [(9, .int K), (10, .ref (2 * k + 2 + 84 + 1)), (7, .int x), (6, .int (nI k)), (5, .ref 85), (4, .int (nI 7)), (3, .int (nI 11)), (2, .int (nI 3)), (1, .ref 0), (0, .ref 1)] [] (wd S E, s) := by
  by_cases hb : bel (x >>> (4 &&& 31)) 3 = 0
  · obtain ⟨f, e1, e2, e3⟩ := hR.2 k (by omega)
    obtain ⟨S1, v1, c1, c2, c3⟩ := k_size (l := l) (D := D) (ad := ad) (tc := tc) (L := L) (xs := xs) (sl := s) (E := E.set (2 * k + 2) (rwC (upd f 4 (1 <<< (nI (bel (x >>> (6 &&& 31)) 3) &&& 31))))) (z := (1 <<< (nI (bel (x >>> (6 &&& 31)) 3) &&& 31))) h (i := k) (by omega) (sh_3 _ (bel_lt (by decide)))
    refine Gc.of (fun r h' z => ?_) (ch_415 (x := x) (K := K) hK hk c1 (RWs_KS (RWs_set hR (by omega) e1 rfl rfl) c2 (by omega)) (by rw [List.length_set]; exact hE) (by rw [(c2 0 (by omega)).1]; exact h8) (by rw [(c2 k (by omega)).1]; exact hkd))
    refine rn_iload dL_chip_381 rfl ?_
    refine rn_iconst (v := 4) dL_chip_383 rfl ?_
    refine rn_ishr dL_chip_384 ?_
    refine rn_iconst (v := nI 3) dL_chip_385 (by decide) ?_
    refine rn_callS dL_chip_386 cs_L_15 (c_L_below (by decide) (by decide)) rfl (by decide) (by decide) rfl (Nat.le_of_ble_eq_true rfl) ?_
    rw [hb]
    refine rn_if_ne (tgt := 415) dL_chip_389 rfl (fun q1 => absurd q1 (by exact fun z9 => z9 nI_0)) (fun _ => ?_)
    refine rn_aload_n dL_chip_392 rfl ?_
    refine rn_iload dL_chip_393 rfl ?_
    refine rn_aload dL_chip_395 rfl ?_
    refine rn_iconst (v := nI 4) dL_chip_397 (by decide) ?_
    refine rn_iconst (v := 1) dL_chip_398 rfl ?_
    refine rn_iload dL_chip_399 rfl ?_
    refine rn_bipush (v := 6) dL_chip_401 rfl ?_
    refine rn_ishr dL_chip_403 ?_
    refine rn_iconst (v := nI 3) dL_chip_404 (by decide) ?_
    refine rn_callS dL_chip_405 cs_L_15 (c_L_below (by decide) (by decide)) rfl (by decide) (by decide) rfl (Nat.le_of_ble_eq_true rfl) ?_
    refine rn_ishl dL_chip_408 ?_
    refine rn_dup_x2 dL_chip_409 rfl rfl rfl ?_
    refine rnE_ias dL_chip_410 e1 (vp_in_nI (by decide) (by decide)) ?_
    rw [nI_clamp (by decide)]
    refine rn_callV dL_chip_411 cv_L_38 c3 rfl h_SH rfl rfl (by decide) (by decide) rfl (Nat.le_of_ble_eq_true rfl) ?_
    refine rn_pop dL_chip_414 rfl ?_
    exact rn_subg rfl z
  · refine Gc.of (fun r h' z => ?_) (ch_415 (x := x) (K := K) hK hk h hR hE h8 hkd)
    refine rn_iload dL_chip_381 rfl ?_
    refine rn_iconst (v := 4) dL_chip_383 rfl ?_
    refine rn_ishr dL_chip_384 ?_
    refine rn_iconst (v := nI 3) dL_chip_385 (by decide) ?_
    refine rn_callS dL_chip_386 cs_L_15 (c_L_below (by decide) (by decide)) rfl (by decide) (by decide) rfl (Nat.le_of_ble_eq_true rfl) ?_
    refine rn_if_ne (tgt := 415) dL_chip_389 rfl (fun _ => ?_) (fun q1 => absurd q1 (by exact nI_ne0 (by omega) (by have := bel_lt (v := x >>> (4 &&& 31)) (n := 3) (by decide); omega)))
    exact rn_subg rfl z
theorem ch_373 {S1 : jS} {c : j_C} {f : Nat → Int32} {v : Int32} (hK : ∀ S E, CI S (k + 1) 0 1 3 → RWs S E (k + 1) → E.length = 2 * k + 3 → kd S 0 ≠ 8 → Gc l D ad tc L xs sF 147 [(6, .int (nI (k + 1))), (5, .ref 85), (4, .int (nI 7)), (3, .int (nI 11)), (2, .int (nI 3)), (1, .ref 0), (0, .ref 1)] [] (wd S E, s)) (hk : k < 11) (h : CI S1 (k + 1) 0 1 3) (hR : RWs S E k) (hKS : KS S S1 k) (hE : E.length = 2 * k + 1) (h8 : kd S1 0 ≠ 8) (hkd : kd S1 k = K) (h0 : f 0 = K) (h3 : K = 7 → f 3 = nI (sV S1 k)) : Gc l D ad tc L xs sF 373 [(9, .int K), (10, .ref (2 * k + 2 + 84 + 1)), (7, .int x), (6, .int (nI k)), (5, .ref 85), (4, .int (nI 7)), (3, .int (nI 11)), (2, .int (nI 3)), (1, .ref 0), (0, .ref 1)] [.int v, .int (nI 2), .ref (2 * k + 2 + 84 + 1)] (wd S1 ((E ++ [c]) ++ [.inl (0, 7, .inl f)]), s) := by
  have hrow : ((E ++ [c]) ++ [.inl (0, 7, .inl (upd f 2 v))])[2 * k + 2]? = some (rwC (upd f 2 v)) := by
    have hl : (E ++ [c]).length = 2 * k + 2 := by simp [hE]
    rw [← hl]
    exact la_at
  refine Gc.of (fun r h' z => ?_) (ch_381 (x := x) (K := K) hK hk h (RWs_new (f := upd f 2 v) hR hE hKS (h0.trans hkd.symm) (fun z => h3 (hkd.symm.trans z))) (by simp [hE]; omega) h8 hkd)
  refine rnL_ias (by simp only [List.length_append, List.length_cons, List.length_nil, hE]; omega) dL_chip_373 (vp_in_nI (by decide) (by decide)) ?_
  rw [nI_clamp (by decide)]
  refine rn_aload dL_chip_374 rfl ?_
  refine rn_iload dL_chip_376 rfl ?_
  refine rn_aload dL_chip_378 rfl ?_
  refine rn_aastoreI (a := 0 + 84) (v := 2 * k + 2 + 84) dL_chip_380 (wd_at2 (RWs_app (RWs_app hR)).1) (wd_at2 hrow) (vp_in_nI (by omega) (by decide)) ?_
  rw [nI_clamp (by omega), mkF_up]
  refine rn_h (h2 := (wd S1 (((E ++ [c]) ++ [.inl (0, 7, .inl (upd f 2 v))]).set 0 (mdC (k + 1))), s)) (by show ((wd S1 _).set (0 + 84) _, s) = _; rw [wd_set2]; rfl) ?_
  exact rn_subg rfl z
theorem ch_348 {S1 : jS} {c : j_C} {f : Nat → Int32} {v : Int32} (hK : ∀ S E, CI S (k + 1) 0 1 3 → RWs S E (k + 1) → E.length = 2 * k + 3 → kd S 0 ≠ 8 → Gc l D ad tc L xs sF 147 [(6, .int (nI (k + 1))), (5, .ref 85), (4, .int (nI 7)), (3, .int (nI 11)), (2, .int (nI 3)), (1, .ref 0), (0, .ref 1)] [] (wd S E, s)) (hk : k < 11) (h : CI S1 (k + 1) 0 1 3) (hR : RWs S E k) (hKS : KS S S1 k) (hE : E.length = 2 * k + 1) (h8 : kd S1 0 ≠ 8) (hkd : kd S1 k = K) (h0 : f 0 = K) (h3 : K = 7 → f 3 = nI (sV S1 k)) : Gc l D ad tc L xs sF 348 [(9, .int K), (10, .ref (2 * k + 2 + 84 + 1)), (7, .int x), (6, .int (nI k)), (5, .ref 85), (4, .int (nI 7)), (3, .int (nI 11)), (2, .int (nI 3)), (1, .ref 0), (0, .ref 1)] [.int v, .int (nI 1), .ref (2 * k + 2 + 84 + 1)] (wd S1 ((E ++ [c]) ++ [.inl (0, 7, .inl f)]), s) := by
  have m1 : Gc l D ad tc L xs sF 373 [(9, .int K), (10, .ref (2 * k + 2 + 84 + 1)), (7, .int x), (6, .int (nI k)), (5, .ref 85), (4, .int (nI 7)), (3, .int (nI 11)), (2, .int (nI 3)), (1, .ref 0), (0, .ref 1)] [.int (-1), .int (nI 2), .ref (2 * k + 2 + 84 + 1)] (wd S1 ((E ++ [c]) ++ [.inl (0, 7, .inl (upd f 1 v))]), s) := ch_373 (x := x) hK hk h hR hKS hE h8 hkd h0 h3
  by_cases k2 : K ≤ 2
  · refine Gc.of (fun r h' z => ?_) m1
    refine rnL_ias (by simp only [List.length_append, List.length_cons, List.length_nil, hE]; omega) dL_chip_348 (vp_in_nI (by decide) (by decide)) ?_
    rw [nI_clamp (by decide)]
    refine rn_aload dL_chip_349 rfl ?_
    refine rn_iconst (v := nI 2) dL_chip_351 (by decide) ?_
    refine rn_iload dL_chip_352 rfl ?_
    refine rn_iconst (v := 2) dL_chip_354 rfl ?_
    refine rn_icmp_le (tgt := 372) dL_chip_355 rfl (fun _ => ?_) (fun q1 => absurd (by exact k2) q1)
    refine rn_iconst (v := (-1)) dL_chip_372 rfl ?_
    exact rn_subg rfl z
  · by_cases k6 : 6 ≤ K
    · refine Gc.of (fun r h' z => ?_) m1
      refine rnL_ias (by simp only [List.length_append, List.length_cons, List.length_nil, hE]; omega) dL_chip_348 (vp_in_nI (by decide) (by decide)) ?_
      rw [nI_clamp (by decide)]
      refine rn_aload dL_chip_349 rfl ?_
      refine rn_iconst (v := nI 2) dL_chip_351 (by decide) ?_
      refine rn_iload dL_chip_352 rfl ?_
      refine rn_iconst (v := 2) dL_chip_354 rfl ?_
      refine rn_icmp_le (tgt := 372) dL_chip_355 rfl (fun q1 => absurd q1 (by exact k2)) (fun _ => ?_)
      refine rn_iload dL_chip_358 rfl ?_
      refine rn_bipush (v := 6) dL_chip_360 rfl ?_
      refine rn_icmp_ge (tgt := 372) dL_chip_362 rfl (fun _ => ?_) (fun q2 => absurd (by exact k6) q2)
      refine rn_iconst (v := (-1)) dL_chip_372 rfl ?_
      exact rn_subg rfl z
    · refine Gc.of (fun r h' z => ?_) (ch_373 (x := x) (v := upd f 1 v 2) (f := upd f 1 v) hK hk h hR hKS hE h8 hkd h0 h3)
      refine rnL_ias (by simp only [List.length_append, List.length_cons, List.length_nil, hE]; omega) dL_chip_348 (vp_in_nI (by decide) (by decide)) ?_
      rw [nI_clamp (by decide)]
      refine rn_aload dL_chip_349 rfl ?_
      refine rn_iconst (v := nI 2) dL_chip_351 (by decide) ?_
      refine rn_iload dL_chip_352 rfl ?_
      refine rn_iconst (v := 2) dL_chip_354 rfl ?_
      refine rn_icmp_le (tgt := 372) dL_chip_355 rfl (fun q1 => absurd q1 (by exact k2)) (fun _ => ?_)
      refine rn_iload dL_chip_358 rfl ?_
      refine rn_bipush (v := 6) dL_chip_360 rfl ?_
      refine rn_icmp_ge (tgt := 372) dL_chip_362 rfl (fun q2 => absurd q2 (by exact k6)) (fun _ => ?_)
      refine rn_aload dL_chip_365 rfl ?_
      refine rn_iconst (v := nI 2) dL_chip_367 (by decide) ?_
      refine rnL_iald (by simp only [List.length_append, List.length_cons, List.length_nil, hE]; omega) dL_chip_368 (vp_in_nI (by decide) (by decide)) ?_
      rw [nI_clamp (by decide)]
      refine rn_goto (tgt := 373) dL_chip_369 rfl ?_
      exact rn_subg rfl z
theorem ch_325 {S1 : jS} {c : j_C} {f : Nat → Int32} (hK : ∀ S E, CI S (k + 1) 0 1 3 → RWs S E (k + 1) → E.length = 2 * k + 3 → kd S 0 ≠ 8 → Gc l D ad tc L xs sF 147 [(6, .int (nI (k + 1))), (5, .ref 85), (4, .int (nI 7)), (3, .int (nI 11)), (2, .int (nI 3)), (1, .ref 0), (0, .ref 1)] [] (wd S E, s)) (hk : k < 11) (h : CI S1 (k + 1) 0 1 3) (hR : RWs S E k) (hKS : KS S S1 k) (hE : E.length = 2 * k + 1) (h8 : kd S1 0 ≠ 8) (hkd : kd S1 k = K) (h0 : f 0 = K) (h3 : K = 7 → f 3 = nI (sV S1 k)) : Gc l D ad tc L xs sF 325 [(9, .int K), (10, .ref (2 * k + 2 + 84 + 1)), (7, .int x), (6, .int (nI k)), (5, .ref 85), (4, .int (nI 7)), (3, .int (nI 11)), (2, .int (nI 3)), (1, .ref 0), (0, .ref 1)] [] (wd S1 ((E ++ [c]) ++ [.inl (0, 7, .inl f)]), s) := by
  have m1 : Gc l D ad tc L xs sF 348 [(9, .int K), (10, .ref (2 * k + 2 + 84 + 1)), (7, .int x), (6, .int (nI k)), (5, .ref 85), (4, .int (nI 7)), (3, .int (nI 11)), (2, .int (nI 3)), (1, .ref 0), (0, .ref 1)] [.int (-1), .int (nI 1), .ref (2 * k + 2 + 84 + 1)] (wd S1 ((E ++ [c]) ++ [.inl (0, 7, .inl f)]), s) := ch_348 (x := x) hK hk h hR hKS hE h8 hkd h0 h3
  by_cases k0 : K = 0
  · refine Gc.of (fun r h' z => ?_) m1
    refine rn_aload dL_chip_325 rfl ?_
    refine rn_iconst (v := nI 1) dL_chip_327 (by decide) ?_
    refine rn_iload dL_chip_328 rfl ?_
    refine rn_if_eq (tgt := 340) dL_chip_330 rfl (fun _ => ?_) (fun q1 => absurd (by exact k0) q1)
    refine rn_iconst (v := (-1)) dL_chip_340 rfl ?_
    refine rn_goto (tgt := 348) dL_chip_341 rfl ?_
    exact rn_subg rfl z
  · by_cases k6 : K = 6
    · refine Gc.of (fun r h' z => ?_) m1
      refine rn_aload dL_chip_325 rfl ?_
      refine rn_iconst (v := nI 1) dL_chip_327 (by decide) ?_
      refine rn_iload dL_chip_328 rfl ?_
      refine rn_if_eq (tgt := 340) dL_chip_330 rfl (fun q1 => absurd q1 (by exact k0)) (fun _ => ?_)
      refine rn_iload dL_chip_333 rfl ?_
      refine rn_bipush (v := 6) dL_chip_335 rfl ?_
      refine rn_icmp_ne (tgt := 344) dL_chip_337 rfl (fun q2 => absurd q2 (by exact fun z9 => z9 k6)) (fun _ => ?_)
      refine rn_iconst (v := (-1)) dL_chip_340 rfl ?_
      refine rn_goto (tgt := 348) dL_chip_341 rfl ?_
      exact rn_subg rfl z
    · refine Gc.of (fun r h' z => ?_) (ch_348 (x := x) (v := f 1) hK hk h hR hKS hE h8 hkd h0 h3)
      refine rn_aload dL_chip_325 rfl ?_
      refine rn_iconst (v := nI 1) dL_chip_327 (by decide) ?_
      refine rn_iload dL_chip_328 rfl ?_
      refine rn_if_eq (tgt := 340) dL_chip_330 rfl (fun q1 => absurd q1 (by exact k0)) (fun _ => ?_)
      refine rn_iload dL_chip_333 rfl ?_
      refine rn_bipush (v := 6) dL_chip_335 rfl ?_
      refine rn_icmp_ne (tgt := 344) dL_chip_337 rfl (fun _ => ?_) (fun q2 => absurd q2 (by exact k6))
      refine rn_aload dL_chip_344 rfl ?_
      refine rn_iconst (v := nI 1) dL_chip_346 (by decide) ?_
      refine rnL_iald (by simp only [List.length_append, List.length_cons, List.length_nil, hE]; omega) dL_chip_347 (vp_in_nI (by decide) (by decide)) ?_
      rw [nI_clamp (by decide)]
      exact rn_subg rfl z
theorem ch_241 {kf : Nat → Int32} (hK : ∀ S E, CI S (k + 1) 0 1 3 → RWs S E (k + 1) → E.length = 2 * k + 3 → kd S 0 ≠ 8 → Gc l D ad tc L xs sF 147 [(6, .int (nI (k + 1))), (5, .ref 85), (4, .int (nI 7)), (3, .int (nI 11)), (2, .int (nI 3)), (1, .ref 0), (0, .ref 1)] [] (wd S E, s + 9 + 7)) (hk : k < 11) (h : CI S k 0 1 3) (hR : RWs S E k) (hE : E.length = 2 * k + 1) (h8 : kd S 0 ≠ 8) (hKV : KV K) (hk2 : K ≠ 0 → K ≠ 6 → 2 ≤ k) : Gc l D ad tc L xs sF 241 [(7, .int x), (8, .ref (2 * k + 1 + 84 + 1)), (6, .int (nI k)), (5, .ref 85), (4, .int (nI 7)), (3, .int (nI 11)), (2, .int (nI 3)), (1, .ref 0), (0, .ref 1)] [.int K] (wd S (E ++ [.inl (0, 9, .inl kf)]), s + 9) := by
  obtain ⟨a, a1, a2, a3⟩ := c_L_inner (l := l) (D := D) (ad := ad) (tc := tc) (L := L) (xs := xs) (S := S) (E := ((E ++ [.inl (0, 9, .inl kf)]) ++ [.inl (0, 7, .inl (upd (fun _ => 0) 0 K))])) (sl := s + 9 + 7) (x := x >>> (3 &&& 31)) (RWs_app (RWs_app hR)) (by omega) h8
  obtain ⟨b, b1, b2, b3⟩ := c_L_inner (l := l) (D := D) (ad := ad) (tc := tc) (L := L) (xs := xs) (S := S) (E := ((E ++ [.inl (0, 9, .inl kf)]) ++ [.inl (0, 7, .inl (upd (upd (fun _ => 0) 0 K) 1 (nI a)))])) (sl := s + 9 + 7) (x := x >>> (5 &&& 31)) (RWs_app (RWs_app hR)) (by omega) h8
  obtain ⟨S1, c1, c2, c3, c4, c5⟩ := k_node (l := l) (D := D) (ad := ad) (tc := tc) (L := L) (xs := xs) (E := ((E ++ [.inl (0, 9, .inl kf)]) ++ [.inl (0, 7, .inl (upd (upd (upd (upd (upd (upd (upd (fun _ => 0) 0 K) 1 (nI a)) 2 (nI b)) 3 (nI (bel (x >>> (2 &&& 31)) 3))) 4 1) 5 4) 6 0))])) (sl := s + 9 + 7) (K := K) (a := a) (b := b) (v := (bel (x >>> (2 &&& 31)) 3)) h (by omega) hKV (fun z1 z2 => by have := hk2 z1 z2; omega) ⟨a2, b2⟩ (bel_lt (by decide))
  have h81 : kd S1 0 ≠ 8 := by
    by_cases k0 : k = 0
    · subst k0
      rw [c3]
      rcases (show K = 0 ∨ K = 6 from Classical.byContradiction fun q => by have := hk2 (fun z => q (Or.inl z)) (fun z => q (Or.inr z)); omega) with rfl | rfl <;> decide
    · rw [(c2 0 (by omega)).1]
      exact h8
  refine Gc.of (fun r h' z => ?_) (ch_325 (x := x) (K := K) (f := (upd (upd (upd (upd (upd (upd (upd (fun _ => 0) 0 K) 1 (nI a)) 2 (nI b)) 3 (nI (bel (x >>> (2 &&& 31)) 3))) 4 1) 5 4) 6 0)) hK hk c1 hR c2 hE h81 c3 rfl (fun q => by rw [c4 q]; rfl))
  refine rn_istore dL_chip_241 (by decide) rfl ?_
  refine rn_bipush (v := 7) dL_chip_243 rfl ?_
  refine rnL_new (a := 2 * k + 2 + 84 + 1) (by simp only [List.length_append, List.length_cons, List.length_nil, hE]; omega) dL_chip_245 (by decide) (by decide) (by decide) ?_
  refine rn_dup dL_chip_247 rfl ?_
  refine rn_iconst (v := nI 0) dL_chip_248 (by decide) ?_
  refine rn_iload dL_chip_249 rfl ?_
  refine rnL_ias (by simp only [List.length_append, List.length_cons, List.length_nil, hE]; omega) dL_chip_251 (vp_in_nI (by decide) (by decide)) ?_
  rw [nI_clamp (by decide)]
  refine rn_dup dL_chip_252 rfl ?_
  refine rn_iconst (v := nI 1) dL_chip_253 (by decide) ?_
  refine rn_aload dL_chip_254 rfl ?_
  refine rn_iload dL_chip_256 rfl ?_
  refine rn_iload dL_chip_258 rfl ?_
  refine rn_iconst (v := 3) dL_chip_260 rfl ?_
  refine rn_ishr dL_chip_261 ?_
  refine rn_callS dL_chip_262 cs_L_31 a3 rfl (by decide) (by decide) rfl (Nat.le_of_ble_eq_true rfl) ?_
  refine rnL_ias (by simp only [List.length_append, List.length_cons, List.length_nil, hE]; omega) dL_chip_265 (vp_in_nI (by decide) (by decide)) ?_
  rw [nI_clamp (by decide)]
  refine rn_dup dL_chip_266 rfl ?_
  refine rn_iconst (v := nI 2) dL_chip_267 (by decide) ?_
  refine rn_aload dL_chip_268 rfl ?_
  refine rn_iload dL_chip_270 rfl ?_
  refine rn_iload dL_chip_272 rfl ?_
  refine rn_iconst (v := 5) dL_chip_274 rfl ?_
  refine rn_ishr dL_chip_275 ?_
  refine rn_callS dL_chip_276 cs_L_31 b3 rfl (by decide) (by decide) rfl (Nat.le_of_ble_eq_true rfl) ?_
  refine rnL_ias (by simp only [List.length_append, List.length_cons, List.length_nil, hE]; omega) dL_chip_279 (vp_in_nI (by decide) (by decide)) ?_
  rw [nI_clamp (by decide)]
  refine rn_dup dL_chip_280 rfl ?_
  refine rn_iconst (v := nI 3) dL_chip_281 (by decide) ?_
  refine rn_iload dL_chip_282 rfl ?_
  refine rn_iconst (v := 2) dL_chip_284 rfl ?_
  refine rn_ishr dL_chip_285 ?_
  refine rn_iconst (v := nI 3) dL_chip_286 (by decide) ?_
  refine rn_callS dL_chip_287 cs_L_15 (c_L_below (by decide) (by decide)) rfl (by decide) (by decide) rfl (Nat.le_of_ble_eq_true rfl) ?_
  refine rnL_ias (by simp only [List.length_append, List.length_cons, List.length_nil, hE]; omega) dL_chip_290 (vp_in_nI (by decide) (by decide)) ?_
  rw [nI_clamp (by decide)]
  refine rn_dup dL_chip_291 rfl ?_
  refine rn_iconst (v := nI 4) dL_chip_292 (by decide) ?_
  refine rn_iconst (v := 1) dL_chip_293 rfl ?_
  refine rnL_ias (by simp only [List.length_append, List.length_cons, List.length_nil, hE]; omega) dL_chip_294 (vp_in_nI (by decide) (by decide)) ?_
  rw [nI_clamp (by decide)]
  refine rn_dup dL_chip_295 rfl ?_
  refine rn_iconst (v := nI 5) dL_chip_296 (by decide) ?_
  refine rn_iconst (v := 4) dL_chip_297 rfl ?_
  refine rnL_ias (by simp only [List.length_append, List.length_cons, List.length_nil, hE]; omega) dL_chip_298 (vp_in_nI (by decide) (by decide)) ?_
  rw [nI_clamp (by decide)]
  refine rn_dup dL_chip_299 rfl ?_
  refine rn_bipush (v := nI 6) dL_chip_300 (by decide) ?_
  refine rn_iconst (v := 0) dL_chip_302 rfl ?_
  refine rnL_ias (by simp only [List.length_append, List.length_cons, List.length_nil, hE]; omega) dL_chip_303 (vp_in_nI (by decide) (by decide)) ?_
  rw [nI_clamp (by decide)]
  refine rn_astore dL_chip_304 (by decide) rfl ?_
  refine rn_aload_n dL_chip_306 rfl ?_
  refine rn_iload dL_chip_307 rfl ?_
  refine rn_aload dL_chip_309 rfl ?_
  refine rn_iconst (v := nI 1) dL_chip_311 (by decide) ?_
  refine rnL_iald (by simp only [List.length_append, List.length_cons, List.length_nil, hE]; omega) dL_chip_312 (vp_in_nI (by decide) (by decide)) ?_
  rw [nI_clamp (by decide)]
  refine rn_topi (y := nI a) rfl ?_
  refine rn_aload dL_chip_313 rfl ?_
  refine rn_iconst (v := nI 2) dL_chip_315 (by decide) ?_
  refine rnL_iald (by simp only [List.length_append, List.length_cons, List.length_nil, hE]; omega) dL_chip_316 (vp_in_nI (by decide) (by decide)) ?_
  rw [nI_clamp (by decide)]
  refine rn_topi (y := nI b) rfl ?_
  refine rn_aload dL_chip_317 rfl ?_
  refine rn_iconst (v := nI 3) dL_chip_319 (by decide) ?_
  refine rnL_iald (by simp only [List.length_append, List.length_cons, List.length_nil, hE]; omega) dL_chip_320 (vp_in_nI (by decide) (by decide)) ?_
  rw [nI_clamp (by decide)]
  refine rn_topi (y := nI (bel (x >>> (2 &&& 31)) 3)) rfl ?_
  refine rn_callV dL_chip_321 cv_L_35 c5 rfl h_SH rfl rfl (by decide) (by decide) rfl (Nat.le_of_ble_eq_true rfl) ?_
  refine rn_pop dL_chip_324 rfl ?_
  exact rn_subg rfl z
def kF : Nat → Int32 := (upd (upd (upd (upd (upd (upd (upd (upd (upd (fun _ => 0) 0 1) 1 2) 2 3) 3 4) 4 5) 5 6) 6 8) 7 (nI 7)) 8 3)
theorem kF_v : ∀ q, q < 9 → kF q ≠ 0 ∧ kF q ≠ 6 ∧ KV (kF q) ∨ kF q = 6 := by
  unfold KV
  decide +kernel
theorem kF_V {q : Nat} (h : q < 9) : KV (kF q) := by
  rcases kF_v q h with ⟨_, _, z⟩ | z
  · exact z
  · rw [z]
    unfold KV
    decide
theorem ch_147 (hL : L < 1000) (hK : ∀ S E, CI S (k + 1) 0 1 3 → RWs S E (k + 1) → E.length = 2 * k + 3 → kd S 0 ≠ 8 → Gc l D ad tc L xs sF 147 [(6, .int (nI (k + 1))), (5, .ref 85), (4, .int (nI 7)), (3, .int (nI 11)), (2, .int (nI 3)), (1, .ref 0), (0, .ref 1)] [] (wd S E, s + 9 + 7)) (hk : k < 11) (h : CI S k 0 1 3) (hR : RWs S E k) (hE : E.length = 2 * k + 1) (h8 : kd S 0 ≠ 8) : Gc l D ad tc L xs sF 147 [(6, .int (nI k)), (5, .ref 85), (4, .int (nI 7)), (3, .int (nI 11)), (2, .int (nI 3)), (1, .ref 0), (0, .ref 1)] [] (wd S E, s) := by
  have K4 : nI k < nI 11 := nI_lt hk (by decide)
  by_cases k2 : 2 ≤ k
  · have hq := bel_lt (v := (celV L xs (3 + k) + nI (13 * k))) (n := 9) (by decide)
    refine Gc.of (fun r h' z => ?_) (ch_241 (x := (celV L xs (3 + k) + nI (13 * k))) (K := kF (bel (celV L xs (3 + k) + nI (13 * k)) 9)) (kf := kF) hK hk h hR hE h8 (kF_V hq) (fun _ _ => k2))
    refine rn_iload dL_chip_147 rfl ?_
    refine rn_iload_n dL_chip_149 rfl ?_
    refine rn_icmp_ge (tgt := 503) dL_chip_150 rfl (fun q1 => absurd q1 (by exact Int32.not_le.mpr K4)) (fun _ => ?_)
    refine rn_aload_n dL_chip_153 rfl ?_
    refine rn_iload_n dL_chip_154 rfl ?_
    refine rn_iload dL_chip_155 rfl ?_
    refine rn_iadd dL_chip_157 ?_
    refine rn_topi (nI_add _ _) ?_
    refine rn_callS dL_chip_158 cs_L_9 (c_L_cell hL (by omega)) rfl (by decide) (by decide) rfl (Nat.le_of_ble_eq_true rfl) ?_
    refine rn_bipush (v := 13) dL_chip_161 rfl ?_
    refine rn_iload dL_chip_163 rfl ?_
    refine rn_imul dL_chip_165 ?_
    refine rn_topi (nI_mul _ _) ?_
    refine rn_iadd dL_chip_166 ?_
    refine rn_istore dL_chip_167 (by decide) rfl ?_
    refine rn_bipush (v := 9) dL_chip_169 rfl ?_
    refine rnL_new (a := 2 * k + 1 + 84 + 1) (by simp only [List.length_append, List.length_cons, List.length_nil, hE]; omega) dL_chip_171 (by decide) (by decide) (by decide) ?_
    refine rn_dup dL_chip_173 rfl ?_
    refine rn_iconst (v := nI 0) dL_chip_174 (by decide) ?_
    refine rn_iconst (v := 1) dL_chip_175 rfl ?_
    refine rnL_ias (by simp only [List.length_append, List.length_cons, List.length_nil, hE]; omega) dL_chip_176 (vp_in_nI (by decide) (by decide)) ?_
    rw [nI_clamp (by decide)]
    refine rn_dup dL_chip_177 rfl ?_
    refine rn_iconst (v := nI 1) dL_chip_178 (by decide) ?_
    refine rn_iconst (v := 2) dL_chip_179 rfl ?_
    refine rnL_ias (by simp only [List.length_append, List.length_cons, List.length_nil, hE]; omega) dL_chip_180 (vp_in_nI (by decide) (by decide)) ?_
    rw [nI_clamp (by decide)]
    refine rn_dup dL_chip_181 rfl ?_
    refine rn_iconst (v := nI 2) dL_chip_182 (by decide) ?_
    refine rn_iconst (v := 3) dL_chip_183 rfl ?_
    refine rnL_ias (by simp only [List.length_append, List.length_cons, List.length_nil, hE]; omega) dL_chip_184 (vp_in_nI (by decide) (by decide)) ?_
    rw [nI_clamp (by decide)]
    refine rn_dup dL_chip_185 rfl ?_
    refine rn_iconst (v := nI 3) dL_chip_186 (by decide) ?_
    refine rn_iconst (v := 4) dL_chip_187 rfl ?_
    refine rnL_ias (by simp only [List.length_append, List.length_cons, List.length_nil, hE]; omega) dL_chip_188 (vp_in_nI (by decide) (by decide)) ?_
    rw [nI_clamp (by decide)]
    refine rn_dup dL_chip_189 rfl ?_
    refine rn_iconst (v := nI 4) dL_chip_190 (by decide) ?_
    refine rn_iconst (v := 5) dL_chip_191 rfl ?_
    refine rnL_ias (by simp only [List.length_append, List.length_cons, List.length_nil, hE]; omega) dL_chip_192 (vp_in_nI (by decide) (by decide)) ?_
    rw [nI_clamp (by decide)]
    refine rn_dup dL_chip_193 rfl ?_
    refine rn_iconst (v := nI 5) dL_chip_194 (by decide) ?_
    refine rn_bipush (v := 6) dL_chip_195 rfl ?_
    refine rnL_ias (by simp only [List.length_append, List.length_cons, List.length_nil, hE]; omega) dL_chip_197 (vp_in_nI (by decide) (by decide)) ?_
    rw [nI_clamp (by decide)]
    refine rn_dup dL_chip_198 rfl ?_
    refine rn_bipush (v := nI 6) dL_chip_199 (by decide) ?_
    refine rn_bipush (v := 8) dL_chip_201 rfl ?_
    refine rnL_ias (by simp only [List.length_append, List.length_cons, List.length_nil, hE]; omega) dL_chip_203 (vp_in_nI (by decide) (by decide)) ?_
    rw [nI_clamp (by decide)]
    refine rn_dup dL_chip_204 rfl ?_
    refine rn_bipush (v := nI 7) dL_chip_205 (by decide) ?_
    refine rn_iload dL_chip_207 rfl ?_
    refine rnL_ias (by simp only [List.length_append, List.length_cons, List.length_nil, hE]; omega) dL_chip_209 (vp_in_nI (by decide) (by decide)) ?_
    rw [nI_clamp (by decide)]
    refine rn_dup dL_chip_210 rfl ?_
    refine rn_bipush (v := nI 8) dL_chip_211 (by decide) ?_
    refine rn_iconst (v := 3) dL_chip_213 rfl ?_
    refine rnL_ias (by simp only [List.length_append, List.length_cons, List.length_nil, hE]; omega) dL_chip_214 (vp_in_nI (by decide) (by decide)) ?_
    rw [nI_clamp (by decide)]
    refine rn_astore dL_chip_215 (by decide) rfl ?_
    refine rn_iload dL_chip_217 rfl ?_
    refine rn_iconst (v := 2) dL_chip_219 rfl ?_
    refine rn_icmp_ge (tgt := 231) dL_chip_220 rfl (fun _ => ?_) (fun q2 => absurd (by (rw [show (2 : Int32) = nI 2 by decide]; exact nI_le k2 (by omega))) q2)
    refine rn_aload dL_chip_231 rfl ?_
    refine rn_iload dL_chip_233 rfl ?_
    refine rn_bipush (v := nI 9) dL_chip_235 (by decide) ?_
    refine rn_callS dL_chip_237 cs_L_15 (c_L_below (by decide) (by decide)) rfl (by decide) (by decide) rfl (Nat.le_of_ble_eq_true rfl) ?_
    refine rnL_iald (by simp only [List.length_append, List.length_cons, List.length_nil, hE]; omega) dL_chip_240 (vp_in_nI (bel_lt (by decide)) (by decide)) ?_
    rw [nI_clamp (by have := bel_lt (v := (celV L xs (3 + k) + nI (13 * k))) (n := 9) (by decide); omega)]
    exact rn_subg rfl z
  · refine Gc.of (fun r h' z => ?_) (ch_241 (x := (celV L xs (3 + k) + nI (13 * k))) (K := nI (6 * k)) (kf := kF) hK hk h hR hE h8 (by rcases (show k = 0 ∨ k = 1 by omega) with rfl | rfl; exact Or.inl rfl; exact Or.inr (Or.inr (Or.inr (Or.inr (Or.inr (Or.inr (Or.inl rfl))))))) (fun z1 z2 => by rcases (show k = 0 ∨ k = 1 by omega) with rfl | rfl; exact absurd rfl z1; exact absurd rfl z2))
    refine rn_iload dL_chip_147 rfl ?_
    refine rn_iload_n dL_chip_149 rfl ?_
    refine rn_icmp_ge (tgt := 503) dL_chip_150 rfl (fun q1 => absurd q1 (by exact Int32.not_le.mpr K4)) (fun _ => ?_)
    refine rn_aload_n dL_chip_153 rfl ?_
    refine rn_iload_n dL_chip_154 rfl ?_
    refine rn_iload dL_chip_155 rfl ?_
    refine rn_iadd dL_chip_157 ?_
    refine rn_topi (nI_add _ _) ?_
    refine rn_callS dL_chip_158 cs_L_9 (c_L_cell hL (by omega)) rfl (by decide) (by decide) rfl (Nat.le_of_ble_eq_true rfl) ?_
    refine rn_bipush (v := 13) dL_chip_161 rfl ?_
    refine rn_iload dL_chip_163 rfl ?_
    refine rn_imul dL_chip_165 ?_
    refine rn_topi (nI_mul _ _) ?_
    refine rn_iadd dL_chip_166 ?_
    refine rn_istore dL_chip_167 (by decide) rfl ?_
    refine rn_bipush (v := 9) dL_chip_169 rfl ?_
    refine rnL_new (a := 2 * k + 1 + 84 + 1) (by simp only [List.length_append, List.length_cons, List.length_nil, hE]; omega) dL_chip_171 (by decide) (by decide) (by decide) ?_
    refine rn_dup dL_chip_173 rfl ?_
    refine rn_iconst (v := nI 0) dL_chip_174 (by decide) ?_
    refine rn_iconst (v := 1) dL_chip_175 rfl ?_
    refine rnL_ias (by simp only [List.length_append, List.length_cons, List.length_nil, hE]; omega) dL_chip_176 (vp_in_nI (by decide) (by decide)) ?_
    rw [nI_clamp (by decide)]
    refine rn_dup dL_chip_177 rfl ?_
    refine rn_iconst (v := nI 1) dL_chip_178 (by decide) ?_
    refine rn_iconst (v := 2) dL_chip_179 rfl ?_
    refine rnL_ias (by simp only [List.length_append, List.length_cons, List.length_nil, hE]; omega) dL_chip_180 (vp_in_nI (by decide) (by decide)) ?_
    rw [nI_clamp (by decide)]
    refine rn_dup dL_chip_181 rfl ?_
    refine rn_iconst (v := nI 2) dL_chip_182 (by decide) ?_
    refine rn_iconst (v := 3) dL_chip_183 rfl ?_
    refine rnL_ias (by simp only [List.length_append, List.length_cons, List.length_nil, hE]; omega) dL_chip_184 (vp_in_nI (by decide) (by decide)) ?_
    rw [nI_clamp (by decide)]
    refine rn_dup dL_chip_185 rfl ?_
    refine rn_iconst (v := nI 3) dL_chip_186 (by decide) ?_
    refine rn_iconst (v := 4) dL_chip_187 rfl ?_
    refine rnL_ias (by simp only [List.length_append, List.length_cons, List.length_nil, hE]; omega) dL_chip_188 (vp_in_nI (by decide) (by decide)) ?_
    rw [nI_clamp (by decide)]
    refine rn_dup dL_chip_189 rfl ?_
    refine rn_iconst (v := nI 4) dL_chip_190 (by decide) ?_
    refine rn_iconst (v := 5) dL_chip_191 rfl ?_
    refine rnL_ias (by simp only [List.length_append, List.length_cons, List.length_nil, hE]; omega) dL_chip_192 (vp_in_nI (by decide) (by decide)) ?_
    rw [nI_clamp (by decide)]
    refine rn_dup dL_chip_193 rfl ?_
    refine rn_iconst (v := nI 5) dL_chip_194 (by decide) ?_
    refine rn_bipush (v := 6) dL_chip_195 rfl ?_
    refine rnL_ias (by simp only [List.length_append, List.length_cons, List.length_nil, hE]; omega) dL_chip_197 (vp_in_nI (by decide) (by decide)) ?_
    rw [nI_clamp (by decide)]
    refine rn_dup dL_chip_198 rfl ?_
    refine rn_bipush (v := nI 6) dL_chip_199 (by decide) ?_
    refine rn_bipush (v := 8) dL_chip_201 rfl ?_
    refine rnL_ias (by simp only [List.length_append, List.length_cons, List.length_nil, hE]; omega) dL_chip_203 (vp_in_nI (by decide) (by decide)) ?_
    rw [nI_clamp (by decide)]
    refine rn_dup dL_chip_204 rfl ?_
    refine rn_bipush (v := nI 7) dL_chip_205 (by decide) ?_
    refine rn_iload dL_chip_207 rfl ?_
    refine rnL_ias (by simp only [List.length_append, List.length_cons, List.length_nil, hE]; omega) dL_chip_209 (vp_in_nI (by decide) (by decide)) ?_
    rw [nI_clamp (by decide)]
    refine rn_dup dL_chip_210 rfl ?_
    refine rn_bipush (v := nI 8) dL_chip_211 (by decide) ?_
    refine rn_iconst (v := 3) dL_chip_213 rfl ?_
    refine rnL_ias (by simp only [List.length_append, List.length_cons, List.length_nil, hE]; omega) dL_chip_214 (vp_in_nI (by decide) (by decide)) ?_
    rw [nI_clamp (by decide)]
    refine rn_astore dL_chip_215 (by decide) rfl ?_
    refine rn_iload dL_chip_217 rfl ?_
    refine rn_iconst (v := 2) dL_chip_219 rfl ?_
    refine rn_icmp_ge (tgt := 231) dL_chip_220 rfl (fun q2 => absurd q2 (by (rw [show (2 : Int32) = nI 2 by decide]; exact nI_ge (by omega) (by decide)))) (fun _ => ?_)
    refine rn_bipush (v := 6) dL_chip_223 rfl ?_
    refine rn_iload dL_chip_225 rfl ?_
    refine rn_imul dL_chip_227 ?_
    refine rn_topi (nI_mul _ _) ?_
    refine rn_goto (tgt := 241) dL_chip_228 rfl ?_
    exact rn_subg rfl z
end CH2
