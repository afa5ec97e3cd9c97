/-! the law's chip: rows of int rows at the end of the cells -/
section CH
variable {l : Launch} {D : va_G} {ad : Nat → Nat} {tc : Nat → ClassId} {L : Nat} {xs : Nat → Int32} {M : j_M} {d lo pc : Nat} {lv : j_L} {st : List Value} {h' : j_H} {r : Option Value} {S : jS} {E : List j_C} {sl a n : Nat} {f : Nat → Int32} {i x : Int32}
theorem la_at {E : List j_C} {c : j_C} : (E ++ [c])[E.length]? = some c := by simp
theorem la_set {E : List j_C} {c c' : j_C} : (E ++ [c]).set E.length c' = E ++ [c'] := by simp
theorem rnL_ias (ha : E.length + 85 = a) (hd : decode M.2.1 pc = .ok (.iastore, 1)) (hin : vp_in i n)
    (kk : Rn l D ad tc L xs M d lo (pc + 1) lv st (wd S (E ++ [.inl (0, n, .inl (upd f i.toNatClampNeg x))]), sl) r h') : Rn l D ad tc L xs M d lo pc lv (.int x :: .int i :: .ref a :: st) (wd S (E ++ [.inl (0, n, .inl f)]), sl) r h' := by
  subst ha
  refine rn_iastore (h := (wd S (E ++ [.inl (0, n, .inl f)]), sl)) (a := E.length + 84) hd (wd_at2 la_at) rfl hin ?_
  show Rn l D ad tc L xs M d lo (pc + 1) lv st ((wd S (E ++ [.inl (0, n, .inl f)])).set (E.length + 84) _, sl) r h'
  rw [wd_set2, la_set]
  exact kk
theorem rnL_iald (ha : E.length + 85 = a) (hd : decode M.2.1 pc = .ok (.iaload, 1)) (hin : vp_in i n)
    (kk : Rn l D ad tc L xs M d lo (pc + 1) lv (.int (f i.toNatClampNeg) :: st) (wd S (E ++ [.inl (0, n, .inl f)]), sl) r h') : Rn l D ad tc L xs M d lo pc lv (.int i :: .ref a :: st) (wd S (E ++ [.inl (0, n, .inl f)]), sl) r h' := by
  subst ha
  exact rn_iaload (h := (wd S (E ++ [.inl (0, n, .inl f)]), sl)) (a := E.length + 84) hd (wd_at2 la_at) rfl hin kk
theorem rnL_new {m : Int32} (ha : E.length + 85 = a) (hd : decode M.2.1 pc = .ok (.newarray .int, 2)) (hn : ¬ m < 0) (hN : m.toNatClampNeg = n) (hby : n * 4 ≤ 536870912)
    (kk : Rn l D ad tc L xs M d lo (pc + 2) lv (.ref a :: st) (wd S (E ++ [.inl (0, n, .inl (fun _ => 0))]), sl + n) r h') : Rn l D ad tc L xs M d lo pc lv (.int m :: st) (wd S E, sl) r h' := by
  subst ha
  refine rn_newarray (t := 0) (N := n) (f := (n, .inl (fun _ => 0))) hd rfl wd_210 hn hN hby (fun _ => rfl) (fun _ _ => rfl) ?_
  show Rn l D ad tc L xs M d lo (pc + 2) lv (.ref ((wd S E).length + 1) :: st) (wd S E ++ [.inl (0, n, .inl (fun _ => 0))], sl + n) r h'
  rw [wd_app, wd_len, show 84 + E.length + 1 = E.length + 85 by omega]
  exact kk
/-- an entry of a row that stands among the others -/
theorem rnE_ias {q : Nat} (hd : decode M.2.1 pc = .ok (.iastore, 1)) (he : E[q]? = some (rwC f)) (hin : vp_in i 7)
    (kk : Rn l D ad tc L xs M d lo (pc + 1) lv st (wd S (E.set q (rwC (upd f i.toNatClampNeg x))), sl) r h') : Rn l D ad tc L xs M d lo pc lv (.int x :: .int i :: .ref (q + 84 + 1) :: st) (wd S E, sl) r h' := by
  refine rn_iastore (h := (wd S E, sl)) (a := q + 84) hd (wd_at2 he) rfl hin ?_
  show Rn l D ad tc L xs M d lo (pc + 1) lv st ((wd S E).set (q + 84) _, sl) r h'
  rw [wd_set2]
  exact kk
theorem rnE_iald {q : Nat} (hd : decode M.2.1 pc = .ok (.iaload, 1)) (he : E[q]? = some (rwC f)) (hin : vp_in i 7)
    (kk : Rn l D ad tc L xs M d lo (pc + 1) lv (.int (f i.toNatClampNeg) :: st) (wd S E, sl) r h') : Rn l D ad tc L xs M d lo pc lv (.int i :: .ref (q + 84 + 1) :: st) (wd S E, sl) r h' :=
  rn_iaload (h := (wd S E, sl)) (a := q + 84) hd (wd_at2 he) rfl hin kk
theorem rnE_aald {k n : Nat} (hR : RWs S E n) (hk : k < n) (hn : n ≤ 11) (hd : decode M.2.1 pc = .ok (.aaload, 1))
    (kk : Rn l D ad tc L xs M d lo (pc + 1) lv (.ref (2 * k + 2 + 84 + 1) :: st) (wd S E, sl) r h') : Rn l D ad tc L xs M d lo pc lv (.int (nI k) :: .ref 85 :: st) (wd S E, sl) r h' :=
  rn_aaloadI (a := 0 + 84) hd (wd_at2 hR.1) (vp_in_nI (by omega) (by decide)) (by rw [nI_clamp (by omega)]; exact if_pos hk) kk
theorem mkF_up {k : Nat} : va_up (mkF k) k (some (2 * k + 2 + 84 + 1)) = mkF (k + 1) := by
  funext j
  unfold va_up mkF
  by_cases h : j = k
  · subst h
    rw [if_pos rfl, if_pos (by omega)]
  · rw [if_neg h]
    by_cases h2 : j < k
    · rw [if_pos h2, if_pos (by omega)]
    · rw [if_neg h2, if_neg (by omega)]
theorem RWs_set {k i : Nat} {f f' : Nat → Int32} (h : RWs S E k) (hi : i < k) (he : E[2 * i + 2]? = some (rwC f)) (h0 : f' 0 = f 0) (h3 : f' 3 = f 3) : RWs S (E.set (2 * i + 2) (rwC f')) k := by
  refine ⟨?_, fun j hj => ?_⟩
  · rw [List.getElem?_set_ne (by omega)]
    exact h.1
  · obtain ⟨p, p1, p2, p3⟩ := h.2 j hj
    by_cases e : i = j
    · subst e
      have hpf : p = f := by
        have := Option.some.inj (p1.symm.trans he)
        unfold rwC at this
        simpa using this
      subst hpf
      refine ⟨f', ?_, h0.trans p2, fun q => ⟨h3.trans (p3 q).1, (p3 q).2⟩⟩
      rw [List.getElem?_set_self (List.getElem?_eq_some_iff.mp he).1]
    · refine ⟨p, ?_, p2, p3⟩
      rw [List.getElem?_set_ne (by omega)]
      exact p1
theorem RWs_KS {S' : jS} {k m : Nat} (h : RWs S E k) (hk : KS S S' m) (hm : k ≤ m) : RWs S' E k := by
  refine ⟨h.1, fun j hj => ?_⟩
  obtain ⟨p, p1, p2, p3⟩ := h.2 j hj
  have q := hk j (by omega)
  exact ⟨p, p1, by rw [q.1]; exact p2, fun z => by rw [q.2]; exact p3 (q.1.symm.trans z)⟩
theorem RWs_new {S' : jS} {k : Nat} {c : j_C} {f : Nat → Int32} (h : RWs S E k) (hE : E.length = 2 * k + 1) (hk : KS S S' k) (h0 : f 0 = kd S' k) (h3 : kd S' k = 7 → f 3 = nI (sV S' k) ∧ sV S' k < 3) : RWs S' (((E ++ [c]) ++ [rwC f]).set 0 (mdC (k + 1))) (k + 1) := by
  have hl : (E ++ [c]).length = 2 * k + 2 := by simp [hE]
  refine ⟨?_, fun j hj => ?_⟩
  · rw [List.getElem?_set_self (by simp)]
  · rw [List.getElem?_set_ne (by omega)]
    by_cases e : j = k
    · subst e
      refine ⟨f, ?_, h0, h3⟩
      rw [← hl]
      exact la_at
    · obtain ⟨p, p1, p2, p3⟩ := (RWs_app (T := [c] ++ [rwC f]) h).2 j (by omega)
      have q := hk j (by omega)
      exact ⟨p, by rw [List.append_assoc]; exact p1, by rw [q.1]; exact p2, fun z => by rw [q.2]; exact p3 (q.1.symm.trans z)⟩
/-- how chip goes on from a point: to rows of eleven nodes that are told -/
def Gc (l : Launch) (D : va_G) (ad : Nat → Nat) (tc : Nat → ClassId) (L : Nat) (xs : Nat → Int32) (sF : Nat) (pc : Nat) (lv : j_L) (st : List Value) (h : j_H) : Prop := ∃ S' E', (CI S' 11 0 1 3 ∧ RWs S' E' 11 ∧ E'.length = 23) ∧ Rn l D ad tc L xs mL_chip 6 130 pc lv st h (some (.ref 85)) (wd S' E', sF)
theorem Gc.of {sF pc2 : Nat} {lv2 : j_L} {st2 : List Value} {h h2 : j_H} (f : ∀ (r : Option Value) (h' : j_H), Rn l D ad tc L xs mL_chip 6 130 pc2 lv2 st2 h2 r h' → Rn l D ad tc L xs mL_chip 6 130 pc lv st h r h') (k : Gc l D ad tc L xs sF pc2 lv2 st2 h2) : Gc l D ad tc L xs sF pc lv st h := by
  obtain ⟨S', E', q, z⟩ := k
  exact ⟨S', E', q, f _ _ z⟩
end CH
section CH2
variable {l : Launch} {D : va_G} {ad : Nat → Nat} {tc : Nat → ClassId} {L : Nat} {xs : Nat → Int32} {S : jS} {E : List j_C} {s sF k : Nat} {x K : Int32}

theorem ch_497 (hK : ∀ S E, CI S (k + 1) 0 1 3 → RWs S E (k + 1) → E.length = 2 * k + 3 → kd S 0 ≠ 8 → Gc l D ad tc L xs sF 147 [(6, .int (nI (k + 1))), (5, .ref 85), (4, .int (nI 7)), (3, .int (nI 11)), (2, .int (nI 3)), (1, .ref 0), (0, .ref 1)] [] (wd S E, s)) (hk : k < 11) (h : CI S (k + 1) 0 1 3) (hR : RWs S E (k + 1)) (hE : E.length = 2 * k + 3) (h8 : kd S 0 ≠ 8) : Gc l D ad tc L xs sF 497 [(9, .int K), (10, .ref (2 * k + 2 + 84 + 1)), (7, .int x), (6, .int (nI k)), (5, .ref 85), (4, .int (nI 7)), (3, .int (nI 11)), (2, .int (nI 3)), (1, .ref 0), (0, .ref 1)] [] (wd S E, s) := by
  refine Gc.of (fun r h' z => ?_) (hK S E h hR hE h8)
  refine rn_iinc dL_chip_497 rfl (nI_1 _) (by decide) rfl ?_
  refine rn_goto (tgt := 147) dL_chip_500 rfl ?_
  exact rn_subg rfl z
theorem ch_474 (hK : ∀ S E, CI S (k + 1) 0 1 3 → RWs S E (k + 1) → E.length = 2 * k + 3 → kd S 0 ≠ 8 → Gc l D ad tc L xs sF 147 [(6, .int (nI (k + 1))), (5, .ref 85), (4, .int (nI 7)), (3, .int (nI 11)), (2, .int (nI 3)), (1, .ref 0), (0, .ref 1)] [] (wd S E, s)) (hk : k < 11) (h : CI S (k + 1) 0 1 3) (hR : RWs S E (k + 1)) (hE : E.length = 2 * k + 3) (h8 : kd S 0 ≠ 8) (hkd : kd S k = 6 ∨ kd S k = 7) : Gc l D ad tc L xs sF 474 [(9, .int K), (10, .ref (2 * k + 2 + 84 + 1)), (7, .int x), (6, .int (nI k)), (5, .ref 85), (4, .int (nI 7)), (3, .int (nI 11)), (2, .int (nI 3)), (1, .ref 0), (0, .ref 1)] [] (wd S E, s) := by
  obtain ⟨f, e1, e2, e3⟩ := hR.2 k (by omega)
  obtain ⟨S1, v1, c1, c2, c3⟩ := k_skew (l := l) (D := D) (ad := ad) (tc := tc) (L := L) (xs := xs) (sl := s) (E := E.set (2 * k + 2) (rwC (upd f 6 (nI (bel (x >>> (8 &&& 31)) 21))))) (w := bel (x >>> (8 &&& 31)) 21) h (i := k) (by omega) hkd (by have := bel_lt (v := x >>> (8 &&& 31)) (n := 21) (by decide); omega)
  refine Gc.of (fun r h' z => ?_) (ch_497 (x := x) (K := K) hK hk c1 (RWs_KS (RWs_set hR (by omega) e1 rfl rfl) c2 (by omega)) (by rw [List.length_set]; exact hE) (by rw [(c2 0 (by omega)).1]; exact h8))
  refine rn_aload_n dL_chip_474 rfl ?_
  refine rn_iload dL_chip_475 rfl ?_
  refine rn_aload dL_chip_477 rfl ?_
  refine rn_bipush (v := nI 6) dL_chip_479 (by decide) ?_
  refine rn_iload dL_chip_481 rfl ?_
  refine rn_bipush (v := 8) dL_chip_483 rfl ?_
  refine rn_ishr dL_chip_485 ?_
  refine rn_bipush (v := nI 21) dL_chip_486 (by decide) ?_
  refine rn_callS dL_chip_488 cs_L_15 (c_L_below (by decide) (by decide)) rfl (by decide) (by decide) rfl (Nat.le_of_ble_eq_true rfl) ?_
  refine rn_dup_x2 dL_chip_491 rfl rfl rfl ?_
  refine rnE_ias dL_chip_492 e1 (vp_in_nI (by decide) (by decide)) ?_
  rw [nI_clamp (by decide)]
  refine rn_callV dL_chip_493 cv_L_44 c3 rfl h_SH rfl rfl (by decide) (by decide) rfl (Nat.le_of_ble_eq_true rfl) ?_
  refine rn_pop dL_chip_496 rfl ?_
  exact rn_subg rfl z
theorem ch_449 (hK : ∀ S E, CI S (k + 1) 0 1 3 → RWs S E (k + 1) → E.length = 2 * k + 3 → kd S 0 ≠ 8 → Gc l D ad tc L xs sF 147 [(6, .int (nI (k + 1))), (5, .ref 85), (4, .int (nI 7)), (3, .int (nI 11)), (2, .int (nI 3)), (1, .ref 0), (0, .ref 1)] [] (wd S E, s)) (hk : k < 11) (h : CI S (k + 1) 0 1 3) (hR : RWs S E (k + 1)) (hE : E.length = 2 * k + 3) (h8 : kd S 0 ≠ 8) (hkd : kd S k = K) : Gc l D ad tc L xs sF 449 [(9, .int K), (10, .ref (2 * k + 2 + 84 + 1)), (7, .int x), (6, .int (nI k)), (5, .ref 85), (4, .int (nI 7)), (3, .int (nI 11)), (2, .int (nI 3)), (1, .ref 0), (0, .ref 1)] [] (wd S E, s) := by
  by_cases h67 : K = 6 ∨ K = 7
  · have G463 : Gc l D ad tc L xs sF 463 [(9, .int K), (10, .ref (2 * k + 2 + 84 + 1)), (7, .int x), (6, .int (nI k)), (5, .ref 85), (4, .int (nI 7)), (3, .int (nI 11)), (2, .int (nI 3)), (1, .ref 0), (0, .ref 1)] [] (wd S E, s) := by
      by_cases hb : bel (x >>> (5 &&& 31)) 2 = 0
      · refine Gc.of (fun r h' z => ?_) (ch_474 (x := x) (K := K) hK hk h hR hE h8 (by rw [hkd]; exact h67))
        refine rn_iload dL_chip_463 rfl ?_
        refine rn_iconst (v := 5) dL_chip_465 rfl ?_
        refine rn_ishr dL_chip_466 ?_
        refine rn_iconst (v := nI 2) dL_chip_467 (by decide) ?_
        refine rn_callS dL_chip_468 cs_L_15 (c_L_below (by decide) (by decide)) rfl (by decide) (by decide) rfl (Nat.le_of_ble_eq_true rfl) ?_
        rw [hb]
        refine rn_if_ne (tgt := 497) dL_chip_471 rfl (fun q1 => absurd q1 (by exact fun z9 => z9 nI_0)) (fun _ => ?_)
        exact rn_subg rfl z
      · refine Gc.of (fun r h' z => ?_) (ch_497 (x := x) (K := K) hK hk h hR hE h8)
        refine rn_iload dL_chip_463 rfl ?_
        refine rn_iconst (v := 5) dL_chip_465 rfl ?_
        refine rn_ishr dL_chip_466 ?_
        refine rn_iconst (v := nI 2) dL_chip_467 (by decide) ?_
        refine rn_callS dL_chip_468 cs_L_15 (c_L_below (by decide) (by decide)) rfl (by decide) (by decide) rfl (Nat.le_of_ble_eq_true rfl) ?_
        refine rn_if_ne (tgt := 497) dL_chip_471 rfl (fun _ => ?_) (fun q1 => absurd q1 (by exact nI_ne0 (by omega) (by have := bel_lt (v := x >>> (5 &&& 31)) (n := 2) (by decide); omega)))
        exact rn_subg rfl z
    rcases h67 with rfl | rfl
    · refine Gc.of (fun r h' z => ?_) G463
      refine rn_iload dL_chip_449 rfl ?_
      refine rn_bipush (v := 6) dL_chip_451 rfl ?_
      refine rn_icmp_eq (tgt := 463) dL_chip_453 rfl (fun _ => ?_) (fun q1 => absurd (by rfl) q1)
      exact rn_subg rfl z
    · refine Gc.of (fun r h' z => ?_) G463
      refine rn_iload dL_chip_449 rfl ?_
      refine rn_bipush (v := 6) dL_chip_451 rfl ?_
      refine rn_icmp_eq (tgt := 463) dL_chip_453 rfl (fun q1 => absurd q1 (by decide)) (fun _ => ?_)
      refine rn_iload dL_chip_456 rfl ?_
      refine rn_bipush (v := 7) dL_chip_458 rfl ?_
      refine rn_icmp_ne (tgt := 497) dL_chip_460 rfl (fun q2 => absurd q2 (by exact fun z9 => z9 rfl)) (fun _ => ?_)
      exact rn_subg rfl z
  · refine Gc.of (fun r h' z => ?_) (ch_497 (x := x) (K := K) hK hk h hR hE h8)
    refine rn_iload dL_chip_449 rfl ?_
    refine rn_bipush (v := 6) dL_chip_451 rfl ?_
    refine rn_icmp_eq (tgt := 463) dL_chip_453 rfl (fun q1 => absurd q1 (by exact fun z9 => h67 (Or.inl z9))) (fun _ => ?_)
    refine rn_iload dL_chip_456 rfl ?_
    refine rn_bipush (v := 7) dL_chip_458 rfl ?_
    refine rn_icmp_ne (tgt := 497) dL_chip_460 rfl (fun _ => ?_) (fun q2 => absurd q2 (by exact fun z9 => h67 (Or.inr z9)))
    exact rn_subg rfl z
theorem ch_415 (hK : ∀ S E, CI S (k + 1) 0 1 3 → RWs S E (k + 1) → E.length = 2 * k + 3 → kd S 0 ≠ 8 → Gc l D ad tc L xs sF 147 [(6, .int (nI (k + 1))), (5, .ref 85), (4, .int (nI 7)), (3, .int (nI 11)), (2, .int (nI 3)), (1, .ref 0), (0, .ref 1)] [] (wd S E, s)) (hk : k < 11) (h : CI S (k + 1) 0 1 3) (hR : RWs S E (k + 1)) (hE : E.length = 2 * k + 3) (h8 : kd S 0 ≠ 8) (hkd : kd S k = K) : Gc l D ad tc L xs sF 415 [(9, .int K), (10, .ref (2 * k + 2 + 84 + 1)), (7, .int x), (6, .int (nI k)), (5, .ref 85), (4, .int (nI 7)), (3, .int (nI 11)), (2, .int (nI 3)), (1, .ref 0), (0, .ref 1)] [] (wd S E, s) := by
  by_cases hb : bel (x >>> (7 &&& 31)) 3 = 0
  · obtain ⟨f, e1, e2, e3⟩ := hR.2 k (by omega)
    obtain ⟨S1, v1, c1, c2, c3⟩ := k_wire (l := l) (D := D) (ad := ad) (tc := tc) (L := L) (xs := xs) (sl := s) (E := E.set (2 * k + 2) (rwC (upd f 5 (nI (bel (x >>> (9 &&& 31)) 81))))) (q := bel (x >>> (9 &&& 31)) 81) h (i := k) (by omega) (by have := bel_lt (v := x >>> (9 &&& 31)) (n := 81) (by decide); omega)
    refine Gc.of (fun r h' z => ?_) (ch_449 (x := x) (K := K) hK hk c1 (RWs_KS (RWs_set hR (by omega) e1 rfl rfl) c2 (by omega)) (by rw [List.length_set]; exact hE) (by rw [(c2 0 (by omega)).1]; exact h8) (by rw [(c2 k (by omega)).1]; exact hkd))
    refine rn_iload dL_chip_415 rfl ?_
    refine rn_bipush (v := 7) dL_chip_417 rfl ?_
    refine rn_ishr dL_chip_419 ?_
    refine rn_iconst (v := nI 3) dL_chip_420 (by decide) ?_
    refine rn_callS dL_chip_421 cs_L_15 (c_L_below (by decide) (by decide)) rfl (by decide) (by decide) rfl (Nat.le_of_ble_eq_true rfl) ?_
    rw [hb]
    refine rn_if_ne (tgt := 449) dL_chip_424 rfl (fun q1 => absurd q1 (by exact fun z9 => z9 nI_0)) (fun _ => ?_)
    refine rn_aload_n dL_chip_427 rfl ?_
    refine rn_iload dL_chip_428 rfl ?_
    refine rn_aload dL_chip_430 rfl ?_
    refine rn_iconst (v := nI 5) dL_chip_432 (by decide) ?_
    refine rn_iload dL_chip_433 rfl ?_
    refine rn_bipush (v := 9) dL_chip_435 rfl ?_
    refine rn_ishr dL_chip_437 ?_
    refine rn_bipush (v := nI 81) dL_chip_438 (by decide) ?_
    refine rn_callS dL_chip_440 cs_L_15 (c_L_below (by decide) (by decide)) rfl (by decide) (by decide) rfl (Nat.le_of_ble_eq_true rfl) ?_
    refine rn_dup_x2 dL_chip_443 rfl rfl rfl ?_
    refine rnE_ias dL_chip_444 e1 (vp_in_nI (by decide) (by decide)) ?_
    rw [nI_clamp (by decide)]
    refine rn_callV dL_chip_445 cv_L_41 c3 rfl h_SH rfl rfl (by decide) (by decide) rfl (Nat.le_of_ble_eq_true rfl) ?_
    refine rn_pop dL_chip_448 rfl ?_
    exact rn_subg rfl z
  · refine Gc.of (fun r h' z => ?_) (ch_449 (x := x) (K := K) hK hk h hR hE h8 hkd)
    refine rn_iload dL_chip_415 rfl ?_
    refine rn_bipush (v := 7) dL_chip_417 rfl ?_
    refine rn_ishr dL_chip_419 ?_
    refine rn_iconst (v := nI 3) dL_chip_420 (by decide) ?_
    refine rn_callS dL_chip_421 cs_L_15 (c_L_below (by decide) (by decide)) rfl (by decide) (by decide) rfl (Nat.le_of_ble_eq_true rfl) ?_
    refine rn_if_ne (tgt := 449) dL_chip_424 rfl (fun _ => ?_) (fun q1 => absurd q1 (by exact nI_ne0 (by omega) (by have := bel_lt (v := x >>> (7 &&& 31)) (n := 3) (by decide); omega)))
    exact rn_subg rfl z
theorem ch_381 (hK : ∀ S E, CI S (k + 1) 0 1 3 → RWs S E (k + 1) → E.length = 2 * k + 3 → kd S 0 ≠ 8 → Gc l D ad tc L xs sF 147 [(6, .int (nI (k + 1))), (5, .ref 85), (4, .int (nI 7)), (3, .int (nI 11)), (2, .int (nI 3)), (1, .ref 0), (0, .ref 1)] [] (wd S E, s)) (hk : k < 11) (h : CI S (k + 1) 0 1 3) (hR : RWs S E (k + 1)) (hE : E.length = 2 * k + 3) (h8 : kd S 0 ≠ 8) (hkd : kd S k = K) : Gc l D ad tc L xs sF 381 [(9, .int K), (10, .ref (2 * k + 2 + 84 + 1)), (7, .int x), (6, .int (nI k)), (5, .ref 85), (4, .int (nI 7)), (3, .int (nI 11)), (2, .int (nI 3)), (1, .ref 0), (0, .ref 1)] [] (wd S E, s) := by
  by_cases hb : bel (x >>> (4 &&& 31)) 3 = 0
  · obtain ⟨f, e1, e2, e3⟩ := hR.2 k (by omega)
    obtain ⟨S1, v1, c1, c2, c3⟩ := k_size (l := l) (D := D) (ad := ad) (tc := tc) (L := L) (xs := xs) (sl := s) (E := E.set (2 * k + 2) (rwC (upd f 4 (1 <<< (nI (bel (x >>> (6 &&& 31)) 3) &&& 31))))) (z := (1 <<< (nI (bel (x >>> (6 &&& 31)) 3) &&& 31))) h (i := k) (by omega) (sh_3 _ (bel_lt (by decide)))
    refine Gc.of (fun r h' z => ?_) (ch_415 (x := x) (K := K) hK hk c1 (RWs_KS (RWs_set hR (by omega) e1 rfl rfl) c2 (by omega)) (by rw [List.length_set]; exact hE) (by rw [(c2 0 (by omega)).1]; exact h8) (by rw [(c2 k (by omega)).1]; exact hkd))
    refine rn_iload dL_chip_381 rfl ?_
    refine rn_iconst (v := 4) dL_chip_383 rfl ?_
    refine rn_ishr dL_chip_384 ?_
    refine rn_iconst (v := nI 3) dL_chip_385 (by decide) ?_
    refine rn_callS dL_chip_386 cs_L_15 (c_L_below (by decide) (by decide)) rfl (by decide) (by decide) rfl (Nat.le_of_ble_eq_true rfl) ?_
    rw [hb]
    refine rn_if_ne (tgt := 415) dL_chip_389 rfl (fun q1 => absurd q1 (by exact fun z9 => z9 nI_0)) (fun _ => ?_)
    refine rn_aload_n dL_chip_392 rfl ?_
    refine rn_iload dL_chip_393 rfl ?_
    refine rn_aload dL_chip_395 rfl ?_
    refine rn_iconst (v := nI 4) dL_chip_397 (by decide) ?_
    refine rn_iconst (v := 1) dL_chip_398 rfl ?_
    refine rn_iload dL_chip_399 rfl ?_
    refine rn_bipush (v := 6) dL_chip_401 rfl ?_
    refine rn_ishr dL_chip_403 ?_
    refine rn_iconst (v := nI 3) dL_chip_404 (by decide) ?_
    refine rn_callS dL_chip_405 cs_L_15 (c_L_below (by decide) (by decide)) rfl (by decide) (by decide) rfl (Nat.le_of_ble_eq_true rfl) ?_
    refine rn_ishl dL_chip_408 ?_
    refine rn_dup_x2 dL_chip_409 rfl rfl rfl ?_
    refine rnE_ias dL_chip_410 e1 (vp_in_nI (by decide) (by decide)) ?_
    rw [nI_clamp (by decide)]
    refine rn_callV dL_chip_411 cv_L_38 c3 rfl h_SH rfl rfl (by decide) (by decide) rfl (Nat.le_of_ble_eq_true rfl) ?_
    refine rn_pop dL_chip_414 rfl ?_
    exact rn_subg rfl z
  · refine Gc.of (fun r h' z => ?_) (ch_415 (x := x) (K := K) hK hk h hR hE h8 hkd)
    refine rn_iload dL_chip_381 rfl ?_
    refine rn_iconst (v := 4) dL_chip_383 rfl ?_
    refine rn_ishr dL_chip_384 ?_
    refine rn_iconst (v := nI 3) dL_chip_385 (by decide) ?_
    refine rn_callS dL_chip_386 cs_L_15 (c_L_below (by decide) (by decide)) rfl (by decide) (by decide) rfl (Nat.le_of_ble_eq_true rfl) ?_
    refine rn_if_ne (tgt := 415) dL_chip_389 rfl (fun _ => ?_) (fun q1 => absurd q1 (by exact nI_ne0 (by omega) (by have := bel_lt (v := x >>> (4 &&& 31)) (n := 3) (by decide); omega)))
    exact rn_subg rfl z
theorem ch_373 {S1 : jS} {c : j_C} {f : Nat → Int32} {v : Int32} (hK : ∀ S E, CI S (k + 1) 0 1 3 → RWs S E (k + 1) → E.length = 2 * k + 3 → kd S 0 ≠ 8 → Gc l D ad tc L xs sF 147 [(6, .int (nI (k + 1))), (5, .ref 85), (4, .int (nI 7)), (3, .int (nI 11)), (2, .int (nI 3)), (1, .ref 0), (0, .ref 1)] [] (wd S E, s)) (hk : k < 11) (h : CI S1 (k + 1) 0 1 3) (hR : RWs S E k) (hKS : KS S S1 k) (hE : E.length = 2 * k + 1) (h8 : kd S1 0 ≠ 8) (hkd : kd S1 k = K) (h0 : f 0 = K) (h3 : K = 7 → f 3 = nI (sV S1 k) ∧ sV S1 k < 3) : Gc l D ad tc L xs sF 373 [(9, .int K), (10, .ref (2 * k + 2 + 84 + 1)), (7, .int x), (6, .int (nI k)), (5, .ref 85), (4, .int (nI 7)), (3, .int (nI 11)), (2, .int (nI 3)), (1, .ref 0), (0, .ref 1)] [.int v, .int (nI 2), .ref (2 * k + 2 + 84 + 1)] (wd S1 ((E ++ [c]) ++ [.inl (0, 7, .inl f)]), s) := by
  have hrow : ((E ++ [c]) ++ [.inl (0, 7, .inl (upd f 2 v))])[2 * k + 2]? = some (rwC (upd f 2 v)) := by
    have hl : (E ++ [c]).length = 2 * k + 2 := by simp [hE]
    rw [← hl]
    exact la_at
  refine Gc.of (fun r h' z => ?_) (ch_381 (x := x) (K := K) hK hk h (RWs_new (f := upd f 2 v) hR hE hKS (h0.trans hkd.symm) (fun z => h3 (hkd.symm.trans z))) (by simp [hE]; omega) h8 hkd)
  refine rnL_ias (by simp only [List.length_append, List.length_cons, List.length_nil, hE]; omega) dL_chip_373 (vp_in_nI (by decide) (by decide)) ?_
  rw [nI_clamp (by decide)]
  refine rn_aload dL_chip_374 rfl ?_
  refine rn_iload dL_chip_376 rfl ?_
  refine rn_aload dL_chip_378 rfl ?_
  refine rn_aastoreI (a := 0 + 84) (v := 2 * k + 2 + 84) dL_chip_380 (wd_at2 (RWs_app (RWs_app hR)).1) (wd_at2 hrow) (vp_in_nI (by omega) (by decide)) ?_
  rw [nI_clamp (by omega), mkF_up]
  refine rn_h (h2 := (wd S1 (((E ++ [c]) ++ [.inl (0, 7, .inl (upd f 2 v))]).set 0 (mdC (k + 1))), s)) (by show ((wd S1 _).set (0 + 84) _, s) = _; rw [wd_set2]; rfl) ?_
  exact rn_subg rfl z
theorem ch_348 {S1 : jS} {c : j_C} {f : Nat → Int32} {v : Int32} (hK : ∀ S E, CI S (k + 1) 0 1 3 → RWs S E (k + 1) → E.length = 2 * k + 3 → kd S 0 ≠ 8 → Gc l D ad tc L xs sF 147 [(6, .int (nI (k + 1))), (5, .ref 85), (4, .int (nI 7)), (3, .int (nI 11)), (2, .int (nI 3)), (1, .ref 0), (0, .ref 1)] [] (wd S E, s)) (hk : k < 11) (h : CI S1 (k + 1) 0 1 3) (hR : RWs S E k) (hKS : KS S S1 k) (hE : E.length = 2 * k + 1) (h8 : kd S1 0 ≠ 8) (hkd : kd S1 k = K) (h0 : f 0 = K) (h3 : K = 7 → f 3 = nI (sV S1 k) ∧ sV S1 k < 3) : Gc l D ad tc L xs sF 348 [(9, .int K), (10, .ref (2 * k + 2 + 84 + 1)), (7, .int x), (6, .int (nI k)), (5, .ref 85), (4, .int (nI 7)), (3, .int (nI 11)), (2, .int (nI 3)), (1, .ref 0), (0, .ref 1)] [.int v, .int (nI 1), .ref (2 * k + 2 + 84 + 1)] (wd S1 ((E ++ [c]) ++ [.inl (0, 7, .inl f)]), s) := by
  have m1 : Gc l D ad tc L xs sF 373 [(9, .int K), (10, .ref (2 * k + 2 + 84 + 1)), (7, .int x), (6, .int (nI k)), (5, .ref 85), (4, .int (nI 7)), (3, .int (nI 11)), (2, .int (nI 3)), (1, .ref 0), (0, .ref 1)] [.int (-1), .int (nI 2), .ref (2 * k + 2 + 84 + 1)] (wd S1 ((E ++ [c]) ++ [.inl (0, 7, .inl (upd f 1 v))]), s) := ch_373 (x := x) hK hk h hR hKS hE h8 hkd h0 h3
  by_cases k2 : K ≤ 2
  · refine Gc.of (fun r h' z => ?_) m1
    refine rnL_ias (by simp only [List.length_append, List.length_cons, List.length_nil, hE]; omega) dL_chip_348 (vp_in_nI (by decide) (by decide)) ?_
    rw [nI_clamp (by decide)]
    refine rn_aload dL_chip_349 rfl ?_
    refine rn_iconst (v := nI 2) dL_chip_351 (by decide) ?_
    refine rn_iload dL_chip_352 rfl ?_
    refine rn_iconst (v := 2) dL_chip_354 rfl ?_
    refine rn_icmp_le (tgt := 372) dL_chip_355 rfl (fun _ => ?_) (fun q1 => absurd (by exact k2) q1)
    refine rn_iconst (v := (-1)) dL_chip_372 rfl ?_
    exact rn_subg rfl z
  · by_cases k6 : 6 ≤ K
    · refine Gc.of (fun r h' z => ?_) m1
      refine rnL_ias (by simp only [List.length_append, List.length_cons, List.length_nil, hE]; omega) dL_chip_348 (vp_in_nI (by decide) (by decide)) ?_
      rw [nI_clamp (by decide)]
      refine rn_aload dL_chip_349 rfl ?_
      refine rn_iconst (v := nI 2) dL_chip_351 (by decide) ?_
      refine rn_iload dL_chip_352 rfl ?_
      refine rn_iconst (v := 2) dL_chip_354 rfl ?_
      refine rn_icmp_le (tgt := 372) dL_chip_355 rfl (fun q1 => absurd q1 (by exact k2)) (fun _ => ?_)
      refine rn_iload dL_chip_358 rfl ?_
      refine rn_bipush (v := 6) dL_chip_360 rfl ?_
      refine rn_icmp_ge (tgt := 372) dL_chip_362 rfl (fun _ => ?_) (fun q2 => absurd (by exact k6) q2)
      refine rn_iconst (v := (-1)) dL_chip_372 rfl ?_
      exact rn_subg rfl z
    · refine Gc.of (fun r h' z => ?_) (ch_373 (x := x) (v := upd f 1 v 2) (f := upd f 1 v) hK hk h hR hKS hE h8 hkd h0 h3)
      refine rnL_ias (by simp only [List.length_append, List.length_cons, List.length_nil, hE]; omega) dL_chip_348 (vp_in_nI (by decide) (by decide)) ?_
      rw [nI_clamp (by decide)]
      refine rn_aload dL_chip_349 rfl ?_
      refine rn_iconst (v := nI 2) dL_chip_351 (by decide) ?_
      refine rn_iload dL_chip_352 rfl ?_
      refine rn_iconst (v := 2) dL_chip_354 rfl ?_
      refine rn_icmp_le (tgt := 372) dL_chip_355 rfl (fun q1 => absurd q1 (by exact k2)) (fun _ => ?_)
      refine rn_iload dL_chip_358 rfl ?_
      refine rn_bipush (v := 6) dL_chip_360 rfl ?_
      refine rn_icmp_ge (tgt := 372) dL_chip_362 rfl (fun q2 => absurd q2 (by exact k6)) (fun _ => ?_)
      refine rn_aload dL_chip_365 rfl ?_
      refine rn_iconst (v := nI 2) dL_chip_367 (by decide) ?_
      refine rnL_iald (by simp only [List.length_append, List.length_cons, List.length_nil, hE]; omega) dL_chip_368 (vp_in_nI (by decide) (by decide)) ?_
      rw [nI_clamp (by decide)]
      refine rn_goto (tgt := 373) dL_chip_369 rfl ?_
      exact rn_subg rfl z
theorem ch_325 {S1 : jS} {c : j_C} {f : Nat → Int32} (hK : ∀ S E, CI S (k + 1) 0 1 3 → RWs S E (k + 1) → E.length = 2 * k + 3 → kd S 0 ≠ 8 → Gc l D ad tc L xs sF 147 [(6, .int (nI (k + 1))), (5, .ref 85), (4, .int (nI 7)), (3, .int (nI 11)), (2, .int (nI 3)), (1, .ref 0), (0, .ref 1)] [] (wd S E, s)) (hk : k < 11) (h : CI S1 (k + 1) 0 1 3) (hR : RWs S E k) (hKS : KS S S1 k) (hE : E.length = 2 * k + 1) (h8 : kd S1 0 ≠ 8) (hkd : kd S1 k = K) (h0 : f 0 = K) (h3 : K = 7 → f 3 = nI (sV S1 k) ∧ sV S1 k < 3) : Gc l D ad tc L xs sF 325 [(9, .int K), (10, .ref (2 * k + 2 + 84 + 1)), (7, .int x), (6, .int (nI k)), (5, .ref 85), (4, .int (nI 7)), (3, .int (nI 11)), (2, .int (nI 3)), (1, .ref 0), (0, .ref 1)] [] (wd S1 ((E ++ [c]) ++ [.inl (0, 7, .inl f)]), s) := by
  have m1 : Gc l D ad tc L xs sF 348 [(9, .int K), (10, .ref (2 * k + 2 + 84 + 1)), (7, .int x), (6, .int (nI k)), (5, .ref 85), (4, .int (nI 7)), (3, .int (nI 11)), (2, .int (nI 3)), (1, .ref 0), (0, .ref 1)] [.int (-1), .int (nI 1), .ref (2 * k + 2 + 84 + 1)] (wd S1 ((E ++ [c]) ++ [.inl (0, 7, .inl f)]), s) := ch_348 (x := x) hK hk h hR hKS hE h8 hkd h0 h3
  by_cases k0 : K = 0
  · refine Gc.of (fun r h' z => ?_) m1
    refine rn_aload dL_chip_325 rfl ?_
    refine rn_iconst (v := nI 1) dL_chip_327 (by decide) ?_
    refine rn_iload dL_chip_328 rfl ?_
    refine rn_if_eq (tgt := 340) dL_chip_330 rfl (fun _ => ?_) (fun q1 => absurd (by exact k0) q1)
    refine rn_iconst (v := (-1)) dL_chip_340 rfl ?_
    refine rn_goto (tgt := 348) dL_chip_341 rfl ?_
    exact rn_subg rfl z
  · by_cases k6 : K = 6
    · refine Gc.of (fun r h' z => ?_) m1
      refine rn_aload dL_chip_325 rfl ?_
      refine rn_iconst (v := nI 1) dL_chip_327 (by decide) ?_
      refine rn_iload dL_chip_328 rfl ?_
      refine rn_if_eq (tgt := 340) dL_chip_330 rfl (fun q1 => absurd q1 (by exact k0)) (fun _ => ?_)
      refine rn_iload dL_chip_333 rfl ?_
      refine rn_bipush (v := 6) dL_chip_335 rfl ?_
      refine rn_icmp_ne (tgt := 344) dL_chip_337 rfl (fun q2 => absurd q2 (by exact fun z9 => z9 k6)) (fun _ => ?_)
      refine rn_iconst (v := (-1)) dL_chip_340 rfl ?_
      refine rn_goto (tgt := 348) dL_chip_341 rfl ?_
      exact rn_subg rfl z
    · refine Gc.of (fun r h' z => ?_) (ch_348 (x := x) (v := f 1) hK hk h hR hKS hE h8 hkd h0 h3)
      refine rn_aload dL_chip_325 rfl ?_
      refine rn_iconst (v := nI 1) dL_chip_327 (by decide) ?_
      refine rn_iload dL_chip_328 rfl ?_
      refine rn_if_eq (tgt := 340) dL_chip_330 rfl (fun q1 => absurd q1 (by exact k0)) (fun _ => ?_)
      refine rn_iload dL_chip_333 rfl ?_
      refine rn_bipush (v := 6) dL_chip_335 rfl ?_
      refine rn_icmp_ne (tgt := 344) dL_chip_337 rfl (fun _ => ?_) (fun q2 => absurd q2 (by exact k6))
      refine rn_aload dL_chip_344 rfl ?_
      refine rn_iconst (v := nI 1) dL_chip_346 (by decide) ?_
      refine rnL_iald (by simp only [List.length_append, List.length_cons, List.length_nil, hE]; omega) dL_chip_347 (vp_in_nI (by decide) (by decide)) ?_
      rw [nI_clamp (by decide)]
      exact rn_subg rfl z
theorem ch_241 {kf : Nat → Int32} (hK : ∀ S E, CI S (k + 1) 0 1 3 → RWs S E (k + 1) → E.length = 2 * k + 3 → kd S 0 ≠ 8 → Gc l D ad tc L xs sF 147 [(6, .int (nI (k + 1))), (5, .ref 85), (4, .int (nI 7)), (3, .int (nI 11)), (2, .int (nI 3)), (1, .ref 0), (0, .ref 1)] [] (wd S E, s + 9 + 7)) (hk : k < 11) (h : CI S k 0 1 3) (hR : RWs S E k) (hE : E.length = 2 * k + 1) (h8 : kd S 0 ≠ 8) (hKV : KV K) (hk2 : K ≠ 0 → K ≠ 6 → 2 ≤ k) : Gc l D ad tc L xs sF 241 [(7, .int x), (8, .ref (2 * k + 1 + 84 + 1)), (6, .int (nI k)), (5, .ref 85), (4, .int (nI 7)), (3, .int (nI 11)), (2, .int (nI 3)), (1, .ref 0), (0, .ref 1)] [.int K] (wd S (E ++ [.inl (0, 9, .inl kf)]), s + 9) := by
  obtain ⟨a, a1, a2, a3⟩ := c_L_inner (l := l) (D := D) (ad := ad) (tc := tc) (L := L) (xs := xs) (S := S) (E := ((E ++ [.inl (0, 9, .inl kf)]) ++ [.inl (0, 7, .inl (upd (fun _ => 0) 0 K))])) (sl := s + 9 + 7) (x := x >>> (3 &&& 31)) (RWs_app (RWs_app hR)) (by omega) h8
  obtain ⟨b, b1, b2, b3⟩ := c_L_inner (l := l) (D := D) (ad := ad) (tc := tc) (L := L) (xs := xs) (S := S) (E := ((E ++ [.inl (0, 9, .inl kf)]) ++ [.inl (0, 7, .inl (upd (upd (fun _ => 0) 0 K) 1 (nI a)))])) (sl := s + 9 + 7) (x := x >>> (5 &&& 31)) (RWs_app (RWs_app hR)) (by omega) h8
  obtain ⟨S1, c1, c2, c3, c4, c5⟩ := k_node (l := l) (D := D) (ad := ad) (tc := tc) (L := L) (xs := xs) (E := ((E ++ [.inl (0, 9, .inl kf)]) ++ [.inl (0, 7, .inl (upd (upd (upd (upd (upd (upd (upd (fun _ => 0) 0 K) 1 (nI a)) 2 (nI b)) 3 (nI (bel (x >>> (2 &&& 31)) 3))) 4 1) 5 4) 6 0))])) (sl := s + 9 + 7) (K := K) (a := a) (b := b) (v := (bel (x >>> (2 &&& 31)) 3)) h (by omega) hKV (fun z1 z2 => by have := hk2 z1 z2; omega) ⟨a2, b2⟩ (bel_lt (by decide))
  have h81 : kd S1 0 ≠ 8 := by
    by_cases k0 : k = 0
    · subst k0
      rw [c3]
      rcases (show K = 0 ∨ K = 6 from Classical.byContradiction fun q => by have := hk2 (fun z => q (Or.inl z)) (fun z => q (Or.inr z)); omega) with rfl | rfl <;> decide
    · rw [(c2 0 (by omega)).1]
      exact h8
  refine Gc.of (fun r h' z => ?_) (ch_325 (x := x) (K := K) (f := (upd (upd (upd (upd (upd (upd (upd (fun _ => 0) 0 K) 1 (nI a)) 2 (nI b)) 3 (nI (bel (x >>> (2 &&& 31)) 3))) 4 1) 5 4) 6 0)) hK hk c1 hR c2 hE h81 c3 rfl (fun q => by rw [c4 q]; exact ⟨rfl, bel_lt (by decide)⟩))
  refine rn_istore dL_chip_241 (by decide) rfl ?_
  refine rn_bipush (v := 7) dL_chip_243 rfl ?_
  refine rnL_new (a := 2 * k + 2 + 84 + 1) (by simp only [List.length_append, List.length_cons, List.length_nil, hE]; omega) dL_chip_245 (by decide) (by decide) (by decide) ?_
  refine rn_dup dL_chip_247 rfl ?_
  refine rn_iconst (v := nI 0) dL_chip_248 (by decide) ?_
  refine rn_iload dL_chip_249 rfl ?_
  refine rnL_ias (by simp only [List.length_append, List.length_cons, List.length_nil, hE]; omega) dL_chip_251 (vp_in_nI (by decide) (by decide)) ?_
  rw [nI_clamp (by decide)]
  refine rn_dup dL_chip_252 rfl ?_
  refine rn_iconst (v := nI 1) dL_chip_253 (by decide) ?_
  refine rn_aload dL_chip_254 rfl ?_
  refine rn_iload dL_chip_256 rfl ?_
  refine rn_iload dL_chip_258 rfl ?_
  refine rn_iconst (v := 3) dL_chip_260 rfl ?_
  refine rn_ishr dL_chip_261 ?_
  refine rn_callS dL_chip_262 cs_L_31 a3 rfl (by decide) (by decide) rfl (Nat.le_of_ble_eq_true rfl) ?_
  refine rnL_ias (by simp only [List.length_append, List.length_cons, List.length_nil, hE]; omega) dL_chip_265 (vp_in_nI (by decide) (by decide)) ?_
  rw [nI_clamp (by decide)]
  refine rn_dup dL_chip_266 rfl ?_
  refine rn_iconst (v := nI 2) dL_chip_267 (by decide) ?_
  refine rn_aload dL_chip_268 rfl ?_
  refine rn_iload dL_chip_270 rfl ?_
  refine rn_iload dL_chip_272 rfl ?_
  refine rn_iconst (v := 5) dL_chip_274 rfl ?_
  refine rn_ishr dL_chip_275 ?_
  refine rn_callS dL_chip_276 cs_L_31 b3 rfl (by decide) (by decide) rfl (Nat.le_of_ble_eq_true rfl) ?_
  refine rnL_ias (by simp only [List.length_append, List.length_cons, List.length_nil, hE]; omega) dL_chip_279 (vp_in_nI (by decide) (by decide)) ?_
  rw [nI_clamp (by decide)]
  refine rn_dup dL_chip_280 rfl ?_
  refine rn_iconst (v := nI 3) dL_chip_281 (by decide) ?_
  refine rn_iload dL_chip_282 rfl ?_
  refine rn_iconst (v := 2) dL_chip_284 rfl ?_
  refine rn_ishr dL_chip_285 ?_
  refine rn_iconst (v := nI 3) dL_chip_286 (by decide) ?_
  refine rn_callS dL_chip_287 cs_L_15 (c_L_below (by decide) (by decide)) rfl (by decide) (by decide) rfl (Nat.le_of_ble_eq_true rfl) ?_
  refine rnL_ias (by simp only [List.length_append, List.length_cons, List.length_nil, hE]; omega) dL_chip_290 (vp_in_nI (by decide) (by decide)) ?_
  rw [nI_clamp (by decide)]
  refine rn_dup dL_chip_291 rfl ?_
  refine rn_iconst (v := nI 4) dL_chip_292 (by decide) ?_
  refine rn_iconst (v := 1) dL_chip_293 rfl ?_
  refine rnL_ias (by simp only [List.length_append, List.length_cons, List.length_nil, hE]; omega) dL_chip_294 (vp_in_nI (by decide) (by decide)) ?_
  rw [nI_clamp (by decide)]
  refine rn_dup dL_chip_295 rfl ?_
  refine rn_iconst (v := nI 5) dL_chip_296 (by decide) ?_
  refine rn_iconst (v := 4) dL_chip_297 rfl ?_
  refine rnL_ias (by simp only [List.length_append, List.length_cons, List.length_nil, hE]; omega) dL_chip_298 (vp_in_nI (by decide) (by decide)) ?_
  rw [nI_clamp (by decide)]
  refine rn_dup dL_chip_299 rfl ?_
  refine rn_bipush (v := nI 6) dL_chip_300 (by decide) ?_
  refine rn_iconst (v := 0) dL_chip_302 rfl ?_
  refine rnL_ias (by simp only [List.length_append, List.length_cons, List.length_nil, hE]; omega) dL_chip_303 (vp_in_nI (by decide) (by decide)) ?_
  rw [nI_clamp (by decide)]
  refine rn_astore dL_chip_304 (by decide) rfl ?_
  refine rn_aload_n dL_chip_306 rfl ?_
  refine rn_iload dL_chip_307 rfl ?_
  refine rn_aload dL_chip_309 rfl ?_
  refine rn_iconst (v := nI 1) dL_chip_311 (by decide) ?_
  refine rnL_iald (by simp only [List.length_append, List.length_cons, List.length_nil, hE]; omega) dL_chip_312 (vp_in_nI (by decide) (by decide)) ?_
  rw [nI_clamp (by decide)]
  refine rn_topi (y := nI a) rfl ?_
  refine rn_aload dL_chip_313 rfl ?_
  refine rn_iconst (v := nI 2) dL_chip_315 (by decide) ?_
  refine rnL_iald (by simp only [List.length_append, List.length_cons, List.length_nil, hE]; omega) dL_chip_316 (vp_in_nI (by decide) (by decide)) ?_
  rw [nI_clamp (by decide)]
  refine rn_topi (y := nI b) rfl ?_
  refine rn_aload dL_chip_317 rfl ?_
  refine rn_iconst (v := nI 3) dL_chip_319 (by decide) ?_
  refine rnL_iald (by simp only [List.length_append, List.length_cons, List.length_nil, hE]; omega) dL_chip_320 (vp_in_nI (by decide) (by decide)) ?_
  rw [nI_clamp (by decide)]
  refine rn_topi (y := nI (bel (x >>> (2 &&& 31)) 3)) rfl ?_
  refine rn_callV dL_chip_321 cv_L_35 c5 rfl h_SH rfl rfl (by decide) (by decide) rfl (Nat.le_of_ble_eq_true rfl) ?_
  refine rn_pop dL_chip_324 rfl ?_
  exact rn_subg rfl z
def kF : Nat → Int32 := (upd (upd (upd (upd (upd (upd (upd (upd (upd (fun _ => 0) 0 1) 1 2) 2 3) 3 4) 4 5) 5 6) 6 8) 7 (nI 7)) 8 3)
theorem kF_v : ∀ q, q < 9 → kF q ≠ 0 ∧ kF q ≠ 6 ∧ KV (kF q) ∨ kF q = 6 := by
  unfold KV
  decide +kernel
theorem kF_V {q : Nat} (h : q < 9) : KV (kF q) := by
  rcases kF_v q h with ⟨_, _, z⟩ | z
  · exact z
  · rw [z]
    unfold KV
    decide
theorem ch_147 (hL : L < 1000) (hK : ∀ S E, CI S (k + 1) 0 1 3 → RWs S E (k + 1) → E.length = 2 * k + 3 → kd S 0 ≠ 8 → Gc l D ad tc L xs sF 147 [(6, .int (nI (k + 1))), (5, .ref 85), (4, .int (nI 7)), (3, .int (nI 11)), (2, .int (nI 3)), (1, .ref 0), (0, .ref 1)] [] (wd S E, s + 9 + 7)) (hk : k < 11) (h : CI S k 0 1 3) (hR : RWs S E k) (hE : E.length = 2 * k + 1) (h8 : kd S 0 ≠ 8) : Gc l D ad tc L xs sF 147 [(6, .int (nI k)), (5, .ref 85), (4, .int (nI 7)), (3, .int (nI 11)), (2, .int (nI 3)), (1, .ref 0), (0, .ref 1)] [] (wd S E, s) := by
  have K4 : nI k < nI 11 := nI_lt hk (by decide)
  by_cases k2 : 2 ≤ k
  · have hq := bel_lt (v := (celV L xs (3 + k) + nI (13 * k))) (n := 9) (by decide)
    refine Gc.of (fun r h' z => ?_) (ch_241 (x := (celV L xs (3 + k) + nI (13 * k))) (K := kF (bel (celV L xs (3 + k) + nI (13 * k)) 9)) (kf := kF) hK hk h hR hE h8 (kF_V hq) (fun _ _ => k2))
    refine rn_iload dL_chip_147 rfl ?_
    refine rn_iload_n dL_chip_149 rfl ?_
    refine rn_icmp_ge (tgt := 503) dL_chip_150 rfl (fun q1 => absurd q1 (by exact Int32.not_le.mpr K4)) (fun _ => ?_)
    refine rn_aload_n dL_chip_153 rfl ?_
    refine rn_iload_n dL_chip_154 rfl ?_
    refine rn_iload dL_chip_155 rfl ?_
    refine rn_iadd dL_chip_157 ?_
    refine rn_topi (nI_add _ _) ?_
    refine rn_callS dL_chip_158 cs_L_9 (c_L_cell hL (by omega)) rfl (by decide) (by decide) rfl (Nat.le_of_ble_eq_true rfl) ?_
    refine rn_bipush (v := 13) dL_chip_161 rfl ?_
    refine rn_iload dL_chip_163 rfl ?_
    refine rn_imul dL_chip_165 ?_
    refine rn_topi (nI_mul _ _) ?_
    refine rn_iadd dL_chip_166 ?_
    refine rn_istore dL_chip_167 (by decide) rfl ?_
    refine rn_bipush (v := 9) dL_chip_169 rfl ?_
    refine rnL_new (a := 2 * k + 1 + 84 + 1) (by simp only [List.length_append, List.length_cons, List.length_nil, hE]; omega) dL_chip_171 (by decide) (by decide) (by decide) ?_
    refine rn_dup dL_chip_173 rfl ?_
    refine rn_iconst (v := nI 0) dL_chip_174 (by decide) ?_
    refine rn_iconst (v := 1) dL_chip_175 rfl ?_
    refine rnL_ias (by simp only [List.length_append, List.length_cons, List.length_nil, hE]; omega) dL_chip_176 (vp_in_nI (by decide) (by decide)) ?_
    rw [nI_clamp (by decide)]
    refine rn_dup dL_chip_177 rfl ?_
    refine rn_iconst (v := nI 1) dL_chip_178 (by decide) ?_
    refine rn_iconst (v := 2) dL_chip_179 rfl ?_
    refine rnL_ias (by simp only [List.length_append, List.length_cons, List.length_nil, hE]; omega) dL_chip_180 (vp_in_nI (by decide) (by decide)) ?_
    rw [nI_clamp (by decide)]
    refine rn_dup dL_chip_181 rfl ?_
    refine rn_iconst (v := nI 2) dL_chip_182 (by decide) ?_
    refine rn_iconst (v := 3) dL_chip_183 rfl ?_
    refine rnL_ias (by simp only [List.length_append, List.length_cons, List.length_nil, hE]; omega) dL_chip_184 (vp_in_nI (by decide) (by decide)) ?_
    rw [nI_clamp (by decide)]
    refine rn_dup dL_chip_185 rfl ?_
    refine rn_iconst (v := nI 3) dL_chip_186 (by decide) ?_
    refine rn_iconst (v := 4) dL_chip_187 rfl ?_
    refine rnL_ias (by simp only [List.length_append, List.length_cons, List.length_nil, hE]; omega) dL_chip_188 (vp_in_nI (by decide) (by decide)) ?_
    rw [nI_clamp (by decide)]
    refine rn_dup dL_chip_189 rfl ?_
    refine rn_iconst (v := nI 4) dL_chip_190 (by decide) ?_
    refine rn_iconst (v := 5) dL_chip_191 rfl ?_
    refine rnL_ias (by simp only [List.length_append, List.length_cons, List.length_nil, hE]; omega) dL_chip_192 (vp_in_nI (by decide) (by decide)) ?_
    rw [nI_clamp (by decide)]
    refine rn_dup dL_chip_193 rfl ?_
    refine rn_iconst (v := nI 5) dL_chip_194 (by decide) ?_
    refine rn_bipush (v := 6) dL_chip_195 rfl ?_
    refine rnL_ias (by simp only [List.length_append, List.length_cons, List.length_nil, hE]; omega) dL_chip_197 (vp_in_nI (by decide) (by decide)) ?_
    rw [nI_clamp (by decide)]
    refine rn_dup dL_chip_198 rfl ?_
    refine rn_bipush (v := nI 6) dL_chip_199 (by decide) ?_
    refine rn_bipush (v := 8) dL_chip_201 rfl ?_
    refine rnL_ias (by simp only [List.length_append, List.length_cons, List.length_nil, hE]; omega) dL_chip_203 (vp_in_nI (by decide) (by decide)) ?_
    rw [nI_clamp (by decide)]
    refine rn_dup dL_chip_204 rfl ?_
    refine rn_bipush (v := nI 7) dL_chip_205 (by decide) ?_
    refine rn_iload dL_chip_207 rfl ?_
    refine rnL_ias (by simp only [List.length_append, List.length_cons, List.length_nil, hE]; omega) dL_chip_209 (vp_in_nI (by decide) (by decide)) ?_
    rw [nI_clamp (by decide)]
    refine rn_dup dL_chip_210 rfl ?_
    refine rn_bipush (v := nI 8) dL_chip_211 (by decide) ?_
    refine rn_iconst (v := 3) dL_chip_213 rfl ?_
    refine rnL_ias (by simp only [List.length_append, List.length_cons, List.length_nil, hE]; omega) dL_chip_214 (vp_in_nI (by decide) (by decide)) ?_
    rw [nI_clamp (by decide)]
    refine rn_astore dL_chip_215 (by decide) rfl ?_
    refine rn_iload dL_chip_217 rfl ?_
    refine rn_iconst (v := 2) dL_chip_219 rfl ?_
    refine rn_icmp_ge (tgt := 231) dL_chip_220 rfl (fun _ => ?_) (fun q2 => absurd (by (rw [show (2 : Int32) = nI 2 by decide]; exact nI_le k2 (by omega))) q2)
    refine rn_aload dL_chip_231 rfl ?_
    refine rn_iload dL_chip_233 rfl ?_
    refine rn_bipush (v := nI 9) dL_chip_235 (by decide) ?_
    refine rn_callS dL_chip_237 cs_L_15 (c_L_below (by decide) (by decide)) rfl (by decide) (by decide) rfl (Nat.le_of_ble_eq_true rfl) ?_
    refine rnL_iald (by simp only [List.length_append, List.length_cons, List.length_nil, hE]; omega) dL_chip_240 (vp_in_nI (bel_lt (by decide)) (by decide)) ?_
    rw [nI_clamp (by have := bel_lt (v := (celV L xs (3 + k) + nI (13 * k))) (n := 9) (by decide); omega)]
    exact rn_subg rfl z
  · refine Gc.of (fun r h' z => ?_) (ch_241 (x := (celV L xs (3 + k) + nI (13 * k))) (K := nI (6 * k)) (kf := kF) hK hk h hR hE h8 (by rcases (show k = 0 ∨ k = 1 by omega) with rfl | rfl; exact Or.inl rfl; exact Or.inr (Or.inr (Or.inr (Or.inr (Or.inr (Or.inr (Or.inl rfl))))))) (fun z1 z2 => by rcases (show k = 0 ∨ k = 1 by omega) with rfl | rfl; exact absurd rfl z1; exact absurd rfl z2))
    refine rn_iload dL_chip_147 rfl ?_
    refine rn_iload_n dL_chip_149 rfl ?_
    refine rn_icmp_ge (tgt := 503) dL_chip_150 rfl (fun q1 => absurd q1 (by exact Int32.not_le.mpr K4)) (fun _ => ?_)
    refine rn_aload_n dL_chip_153 rfl ?_
    refine rn_iload_n dL_chip_154 rfl ?_
    refine rn_iload dL_chip_155 rfl ?_
    refine rn_iadd dL_chip_157 ?_
    refine rn_topi (nI_add _ _) ?_
    refine rn_callS dL_chip_158 cs_L_9 (c_L_cell hL (by omega)) rfl (by decide) (by decide) rfl (Nat.le_of_ble_eq_true rfl) ?_
    refine rn_bipush (v := 13) dL_chip_161 rfl ?_
    refine rn_iload dL_chip_163 rfl ?_
    refine rn_imul dL_chip_165 ?_
    refine rn_topi (nI_mul _ _) ?_
    refine rn_iadd dL_chip_166 ?_
    refine rn_istore dL_chip_167 (by decide) rfl ?_
    refine rn_bipush (v := 9) dL_chip_169 rfl ?_
    refine rnL_new (a := 2 * k + 1 + 84 + 1) (by simp only [List.length_append, List.length_cons, List.length_nil, hE]; omega) dL_chip_171 (by decide) (by decide) (by decide) ?_
    refine rn_dup dL_chip_173 rfl ?_
    refine rn_iconst (v := nI 0) dL_chip_174 (by decide) ?_
    refine rn_iconst (v := 1) dL_chip_175 rfl ?_
    refine rnL_ias (by simp only [List.length_append, List.length_cons, List.length_nil, hE]; omega) dL_chip_176 (vp_in_nI (by decide) (by decide)) ?_
    rw [nI_clamp (by decide)]
    refine rn_dup dL_chip_177 rfl ?_
    refine rn_iconst (v := nI 1) dL_chip_178 (by decide) ?_
    refine rn_iconst (v := 2) dL_chip_179 rfl ?_
    refine rnL_ias (by simp only [List.length_append, List.length_cons, List.length_nil, hE]; omega) dL_chip_180 (vp_in_nI (by decide) (by decide)) ?_
    rw [nI_clamp (by decide)]
    refine rn_dup dL_chip_181 rfl ?_
    refine rn_iconst (v := nI 2) dL_chip_182 (by decide) ?_
    refine rn_iconst (v := 3) dL_chip_183 rfl ?_
    refine rnL_ias (by simp only [List.length_append, List.length_cons, List.length_nil, hE]; omega) dL_chip_184 (vp_in_nI (by decide) (by decide)) ?_
    rw [nI_clamp (by decide)]
    refine rn_dup dL_chip_185 rfl ?_
    refine rn_iconst (v := nI 3) dL_chip_186 (by decide) ?_
    refine rn_iconst (v := 4) dL_chip_187 rfl ?_
    refine rnL_ias (by simp only [List.length_append, List.length_cons, List.length_nil, hE]; omega) dL_chip_188 (vp_in_nI (by decide) (by decide)) ?_
    rw [nI_clamp (by decide)]
    refine rn_dup dL_chip_189 rfl ?_
    refine rn_iconst (v := nI 4) dL_chip_190 (by decide) ?_
    refine rn_iconst (v := 5) dL_chip_191 rfl ?_
    refine rnL_ias (by simp only [List.length_append, List.length_cons, List.length_nil, hE]; omega) dL_chip_192 (vp_in_nI (by decide) (by decide)) ?_
    rw [nI_clamp (by decide)]
    refine rn_dup dL_chip_193 rfl ?_
    refine rn_iconst (v := nI 5) dL_chip_194 (by decide) ?_
    refine rn_bipush (v := 6) dL_chip_195 rfl ?_
    refine rnL_ias (by simp only [List.length_append, List.length_cons, List.length_nil, hE]; omega) dL_chip_197 (vp_in_nI (by decide) (by decide)) ?_
    rw [nI_clamp (by decide)]
    refine rn_dup dL_chip_198 rfl ?_
    refine rn_bipush (v := nI 6) dL_chip_199 (by decide) ?_
    refine rn_bipush (v := 8) dL_chip_201 rfl ?_
    refine rnL_ias (by simp only [List.length_append, List.length_cons, List.length_nil, hE]; omega) dL_chip_203 (vp_in_nI (by decide) (by decide)) ?_
    rw [nI_clamp (by decide)]
    refine rn_dup dL_chip_204 rfl ?_
    refine rn_bipush (v := nI 7) dL_chip_205 (by decide) ?_
    refine rn_iload dL_chip_207 rfl ?_
    refine rnL_ias (by simp only [List.length_append, List.length_cons, List.length_nil, hE]; omega) dL_chip_209 (vp_in_nI (by decide) (by decide)) ?_
    rw [nI_clamp (by decide)]
    refine rn_dup dL_chip_210 rfl ?_
    refine rn_bipush (v := nI 8) dL_chip_211 (by decide) ?_
    refine rn_iconst (v := 3) dL_chip_213 rfl ?_
    refine rnL_ias (by simp only [List.length_append, List.length_cons, List.length_nil, hE]; omega) dL_chip_214 (vp_in_nI (by decide) (by decide)) ?_
    rw [nI_clamp (by decide)]
    refine rn_astore dL_chip_215 (by decide) rfl ?_
    refine rn_iload dL_chip_217 rfl ?_
    refine rn_iconst (v := 2) dL_chip_219 rfl ?_
    refine rn_icmp_ge (tgt := 231) dL_chip_220 rfl (fun q2 => absurd q2 (by (rw [show (2 : Int32) = nI 2 by decide]; exact nI_ge (by omega) (by decide)))) (fun _ => ?_)
    refine rn_bipush (v := 6) dL_chip_223 rfl ?_
    refine rn_iload dL_chip_225 rfl ?_
    refine rn_imul dL_chip_227 ?_
    refine rn_topi (nI_mul _ _) ?_
    refine rn_goto (tgt := 241) dL_chip_228 rfl ?_
    exact rn_subg rfl z
theorem ch_506 (hL : L < 1000) : ∀ m k : Nat, ∀ (S : jS) (E : List j_C), k + m = 11 → CI S 11 0 1 3 → RWs S E 11 → E.length = 23 → kd S 0 ≠ 8 → Gc l D ad tc L xs sF 506 [(6, .int (nI k)), (5, .ref 85), (4, .int (nI 7)), (3, .int (nI 11)), (2, .int (nI 3)), (1, .ref 0), (0, .ref 1)] [] (wd S E, sF) := by
  intro m
  induction m with
  | zero =>
    intro k S E hk h hR hE h8
    have hk' : k = 11 := by omega
    subst hk'
    refine ⟨S, E, ⟨h, hR, hE⟩, ?_⟩
    refine rn_iload dL_chip_506 rfl ?_
    refine rn_iload_n dL_chip_508 rfl ?_
    refine rn_icmp_ge (tgt := 575) dL_chip_509 rfl (fun _ => ?_) (fun q1 => absurd (by exact Int32.le_refl _) q1)
    refine rn_aload dL_chip_575 rfl ?_
    exact rn_ret dL_chip_577 trivial (by simp_all [bI])
  | succ m ih =>
    intro k S E hk1 h hR hE h8
    have hk : k < 11 := by omega
    have K4 : nI k < nI 11 := nI_lt hk (by decide)
    obtain ⟨f, e1, e2, e3⟩ := hR.2 k hk
    by_cases h6 : kd S k = 6
    · obtain ⟨b, b1, b2, b3⟩ := c_L_inner (l := l) (D := D) (ad := ad) (tc := tc) (L := L) (xs := xs) (S := S) (E := E) (sl := sF) (k := 11) (x := (celV L xs (3 + k + 3) + nI (5 * k))) hR (by decide) h8
      have hR2 : RWs S (E.set (2 * k + 2) (rwC (upd f 1 (nI b)))) 11 := RWs_set hR hk e1 rfl rfl
      have e1' : (E.set (2 * k + 2) (rwC (upd f 1 (nI b))))[2 * k + 2]? = some (rwC (upd f 1 (nI b))) := List.getElem?_set_self (List.getElem?_eq_some_iff.mp e1).1
      obtain ⟨S1, v1, c1, c2, c3⟩ := k_feed (l := l) (D := D) (ad := ad) (tc := tc) (L := L) (xs := xs) (sl := sF) (E := (E.set (2 * k + 2) (rwC (upd f 1 (nI b))))) (i := k) (a := b) h hk (by omega) h6 b2
      refine Gc.of (fun r h' z => ?_) (ih (k + 1) S1 (E.set (2 * k + 2) (rwC (upd f 1 (nI b)))) (by omega) c1 (RWs_KS hR2 c2 (by decide)) (by rw [List.length_set]; exact hE) (by rw [(c2 0 (by decide)).1]; exact h8))
      refine rn_iload dL_chip_506 rfl ?_
      refine rn_iload_n dL_chip_508 rfl ?_
      refine rn_icmp_ge (tgt := 575) dL_chip_509 rfl (fun q1 => absurd q1 (by exact Int32.not_le.mpr K4)) (fun _ => ?_)
      refine rn_aload dL_chip_512 rfl ?_
      refine rn_iload dL_chip_514 rfl ?_
      refine rnE_aald hR hk (by decide) dL_chip_516 ?_
      refine rn_iconst (v := nI 0) dL_chip_517 (by decide) ?_
      refine rnE_iald dL_chip_518 e1 (vp_in_nI (by decide) (by decide)) ?_
      rw [nI_clamp (by decide)]
      refine rn_topi (y := kd S k) e2 ?_
      refine rn_bipush (v := 6) dL_chip_519 rfl ?_
      refine rn_icmp_eq (tgt := 527) dL_chip_521 rfl (fun _ => ?_) (fun q2 => absurd (by exact h6) q2)
      refine rn_aload dL_chip_527 rfl ?_
      refine rn_iload dL_chip_529 rfl ?_
      refine rnE_aald hR hk (by decide) dL_chip_531 ?_
      refine rn_iconst (v := nI 1) dL_chip_532 (by decide) ?_
      refine rn_aload dL_chip_533 rfl ?_
      refine rn_iload_n dL_chip_535 rfl ?_
      refine rn_aload_n dL_chip_536 rfl ?_
      refine rn_iload_n dL_chip_537 rfl ?_
      refine rn_iload dL_chip_538 rfl ?_
      refine rn_iadd dL_chip_540 ?_
      refine rn_topi (nI_add _ _) ?_
      refine rn_iconst (v := nI 3) dL_chip_541 (by decide) ?_
      refine rn_iadd dL_chip_542 ?_
      refine rn_topi (nI_add _ _) ?_
      refine rn_callS dL_chip_543 cs_L_9 (c_L_cell hL (by omega)) rfl (by decide) (by decide) rfl (Nat.le_of_ble_eq_true rfl) ?_
      refine rn_iconst (v := 5) dL_chip_546 rfl ?_
      refine rn_iload dL_chip_547 rfl ?_
      refine rn_imul dL_chip_549 ?_
      refine rn_topi (nI_mul _ _) ?_
      refine rn_iadd dL_chip_550 ?_
      refine rn_callS dL_chip_551 cs_L_31 b3 rfl (by decide) (by decide) rfl (Nat.le_of_ble_eq_true rfl) ?_
      refine rnE_ias dL_chip_554 e1 (vp_in_nI (by decide) (by decide)) ?_
      rw [nI_clamp (by decide)]
      refine rn_aload_n dL_chip_555 rfl ?_
      refine rn_iload dL_chip_556 rfl ?_
      refine rn_aload dL_chip_558 rfl ?_
      refine rn_iload dL_chip_560 rfl ?_
      refine rnE_aald hR2 hk (by decide) dL_chip_562 ?_
      refine rn_iconst (v := nI 1) dL_chip_563 (by decide) ?_
      refine rnE_iald dL_chip_564 e1' (vp_in_nI (by decide) (by decide)) ?_
      rw [nI_clamp (by decide)]
      refine rn_topi (y := nI b) rfl ?_
      refine rn_callV dL_chip_565 cv_L_47 c3 rfl h_SH rfl rfl (by decide) (by decide) rfl (Nat.le_of_ble_eq_true rfl) ?_
      refine rn_pop dL_chip_568 rfl ?_
      refine rn_iinc dL_chip_569 rfl (nI_1 _) (by decide) rfl ?_
      refine rn_goto (tgt := 506) dL_chip_572 rfl ?_
      exact rn_subg rfl z
    · refine Gc.of (fun r h' z => ?_) (ih (k + 1) S E (by omega) h hR hE h8)
      refine rn_iload dL_chip_506 rfl ?_
      refine rn_iload_n dL_chip_508 rfl ?_
      refine rn_icmp_ge (tgt := 575) dL_chip_509 rfl (fun q1 => absurd q1 (by exact Int32.not_le.mpr K4)) (fun _ => ?_)
      refine rn_aload dL_chip_512 rfl ?_
      refine rn_iload dL_chip_514 rfl ?_
      refine rnE_aald hR hk (by decide) dL_chip_516 ?_
      refine rn_iconst (v := nI 0) dL_chip_517 (by decide) ?_
      refine rnE_iald dL_chip_518 e1 (vp_in_nI (by decide) (by decide)) ?_
      rw [nI_clamp (by decide)]
      refine rn_topi (y := kd S k) e2 ?_
      refine rn_bipush (v := 6) dL_chip_519 rfl ?_
      refine rn_icmp_eq (tgt := 527) dL_chip_521 rfl (fun q2 => absurd q2 (by exact h6)) (fun _ => ?_)
      refine rn_goto (tgt := 569) dL_chip_524 rfl ?_
      refine rn_iinc dL_chip_569 rfl (nI_1 _) (by decide) rfl ?_
      refine rn_goto (tgt := 506) dL_chip_572 rfl ?_
      exact rn_subg rfl z
theorem ch_loop (hL : L < 1000) : ∀ m k s : Nat, ∀ (S : jS) (E : List j_C), k + m = 11 → s + 16 * m = sF → CI S k 0 1 3 → RWs S E k → E.length = 2 * k + 1 → kd S 0 ≠ 8 → Gc l D ad tc L xs sF 147 [(6, .int (nI k)), (5, .ref 85), (4, .int (nI 7)), (3, .int (nI 11)), (2, .int (nI 3)), (1, .ref 0), (0, .ref 1)] [] (wd S E, s) := by
  intro m
  induction m with
  | zero =>
    intro k s S E hk hs h hR hE h8
    have hk' : k = 11 := by omega
    subst hk'
    have hs' : s = sF := by omega
    subst hs'
    refine Gc.of (fun r h' z => ?_) (ch_506 hL 11 0 S E (by decide) h hR hE h8)
    refine rn_iload dL_chip_147 rfl ?_
    refine rn_iload_n dL_chip_149 rfl ?_
    refine rn_icmp_ge (tgt := 503) dL_chip_150 rfl (fun _ => ?_) (fun q1 => absurd (by exact Int32.le_refl _) q1)
    refine rn_iconst (v := nI 0) dL_chip_503 (by decide) ?_
    refine rn_istore dL_chip_504 (by decide) rfl ?_
    exact rn_subg rfl z
  | succ m ih =>
    intro k s S E hk hs h hR hE h8
    exact ch_147 hL (fun S E q1 q2 q3 q4 => ih (k + 1) (s + 9 + 7) S E (by omega) (by omega) q1 q2 (by omega) q4) (by omega) h hR hE h8
theorem mkF_0 : mkF 0 = fun _ => none := funext fun i => if_neg (Nat.not_lt_zero i)
theorem rnL_anew {M : j_M} {d lo pc idx : Nat} {lv : j_L} {st : List Value} {h' : j_H} {r : Option Value} (hd : decode M.2.1 pc = .ok (.anewarray idx, 3)) (hw : Cond.classLink M.1.cls idx "[I" ∈ j_all)
    (kk : Rn l D ad tc L xs M d lo (pc + 3) lv (.ref 85 :: st) (wd S [mdC 0], s + 11) r h') : Rn l D ad tc L xs M d lo pc lv (.int (nI 11) :: st) (wd S [], s) r h' := by
  refine rn_anewA (N := 11) hd hw (by decide) (by decide) (by decide) ?_
  show Rn l D ad tc L xs M d lo (pc + 3) lv (.ref ((wd S []).length + 1) :: st) (wd S [] ++ [.inl (8, 11, .inr (.inr (.inr (.inr (fun _ => none)))))], s + 11) r h'
  rw [wd_app, wd_len, ← mkF_0]
  exact kk
theorem ch_105 (hL : L < 1000) {p q u : Nat} (h : CI S 0 0 1 2) (h0 : sI S (0 + 6) 0 = nI p ∧ sI S (0 + 6) 1 = nI q ∧ sI S (0 + 6) 2 = nI u) (hp : p ≤ 40) (hq : q ≤ 40) (hu : u ≤ 20) (h8 : kd S 0 ≠ 8) (hs : s + 187 = sF) : Gc l D ad tc L xs sF 105 [(4, .int (nI 7)), (3, .int (nI 11)), (2, .int (nI 3)), (1, .ref 0), (0, .ref 1)] [] (wd S [], s) := by
  have := bel_lt (v := (celV L xs (3 + 7))) (n := 3) (by decide)
  have := bel_lt (v := (celV L xs (3 + 8))) (n := 21) (by decide)
  obtain ⟨S1, c1, c2, c3⟩ := k_divide (l := l) (D := D) (ad := ad) (tc := tc) (L := L) (xs := xs) (E := []) (sl := s) (c := 0) (x := 2 + (bel (celV L xs (3 + 7)) 3)) (y := (bel (celV L xs (3 + 8)) 21)) h (by decide) (by decide) (by omega) (by omega) h0 hp hq hu
  refine Gc.of (fun r h' z => ?_) (ch_loop hL 11 0 (s + 11) S1 [mdC 0] (by decide) (by omega) c1 ⟨rfl, fun i hi => absurd hi (Nat.not_lt_zero i)⟩ rfl (by rw [(c2 0 (by decide)).1]; exact h8))
  refine rn_aload_n dL_chip_105 rfl ?_
  refine rn_iconst (v := nI 0) dL_chip_106 (by decide) ?_
  refine rn_iconst (v := nI 2) dL_chip_107 (by decide) ?_
  refine rn_aload_n dL_chip_108 rfl ?_
  refine rn_iload_n dL_chip_109 rfl ?_
  refine rn_bipush (v := nI 7) dL_chip_110 (by decide) ?_
  refine rn_iadd dL_chip_112 ?_
  refine rn_topi (nI_add _ _) ?_
  refine rn_callS dL_chip_113 cs_L_9 (c_L_cell hL (by omega)) rfl (by decide) (by decide) rfl (Nat.le_of_ble_eq_true rfl) ?_
  refine rn_iconst (v := nI 3) dL_chip_116 (by decide) ?_
  refine rn_callS dL_chip_117 cs_L_15 (c_L_below (by decide) (by decide)) rfl (by decide) (by decide) rfl (Nat.le_of_ble_eq_true rfl) ?_
  refine rn_iadd dL_chip_120 ?_
  refine rn_topi (nI_add _ _) ?_
  refine rn_aload_n dL_chip_121 rfl ?_
  refine rn_iload_n dL_chip_122 rfl ?_
  refine rn_bipush (v := nI 8) dL_chip_123 (by decide) ?_
  refine rn_iadd dL_chip_125 ?_
  refine rn_topi (nI_add _ _) ?_
  refine rn_callS dL_chip_126 cs_L_9 (c_L_cell hL (by omega)) rfl (by decide) (by decide) rfl (Nat.le_of_ble_eq_true rfl) ?_
  refine rn_bipush (v := nI 21) dL_chip_129 (by decide) ?_
  refine rn_callS dL_chip_131 cs_L_15 (c_L_below (by decide) (by decide)) rfl (by decide) (by decide) rfl (Nat.le_of_ble_eq_true rfl) ?_
  refine rn_callV dL_chip_134 cv_L_25 c3 rfl h_SH rfl rfl (by decide) (by decide) rfl (Nat.le_of_ble_eq_true rfl) ?_
  refine rn_pop dL_chip_137 rfl ?_
  refine rn_iload_n dL_chip_138 rfl ?_
  refine rnL_anew dL_chip_139 wd_555 ?_
  refine rn_astore dL_chip_142 (by decide) rfl ?_
  refine rn_iconst (v := nI 0) dL_chip_144 (by decide) ?_
  refine rn_istore dL_chip_145 (by decide) rfl ?_
  exact rn_subg rfl z
theorem Grid_s0 : ∀ j, j < 7 → Grid s0 j := by
  intro j hj
  have z : ∀ a, 50 ≤ a → sD s0 a = fun _ => dv 0 := fun a ha => by
    funext f
    show (if a < 10 then _ else _) = _
    rw [if_neg (by omega), if_neg (by omega), ← dv_0]
    rfl
  exact Grid_i (t := (fun _ => 0, fun _ => 0, fun _ => 0, fun _ => 0)) ⟨z _ (by omega), z _ (by omega), z _ (by omega), z _ (by omega)⟩ ⟨fun x => by show (0 : Int) ≤ 0 ∧ (0 : Int) ≤ _; omega, fun x => by show (-20000000 : Int) ≤ 0 ∧ (0 : Int) ≤ 20000000; omega, fun x => by show (-20000000 : Int) ≤ 0 ∧ (0 : Int) ≤ 409595904; omega, fun x => by show (0 : Int) ≤ 0 ∧ (0 : Int) ≤ 400000; omega⟩
theorem CI_0 : CI s0 0 0 1 0 := ⟨T_0, rfl, Grid_s0⟩
theorem ch_0 (hL : L < 1000) (hs : s + 187 = sF) : Gc l D ad tc L xs sF 0 [(4, .int (nI 7)), (3, .int (nI 11)), (2, .int (nI 3)), (1, .ref 0), (0, .ref 1)] [] (wd s0 [], s) := by
  have := bel_lt (v := (celV L xs 3)) (n := 37) (by decide)
  have := bel_lt (v := (celV L xs (3 + 1))) (n := 41) (by decide)
  have := bel_lt (v := (celV L xs (3 + 2))) (n := 21) (by decide)
  have := bel_lt (v := (celV L xs (3 + 3))) (n := 37) (by decide)
  have := bel_lt (v := (celV L xs (3 + 4))) (n := 41) (by decide)
  have := bel_lt (v := (celV L xs (3 + 5))) (n := 21) (by decide)
  obtain ⟨S1, a1, a2, -, a4, a5⟩ := k_clock (l := l) (D := D) (ad := ad) (tc := tc) (L := L) (xs := xs) (E := []) (sl := s) (x := 4 + (bel (celV L xs 3) 37)) (y := (bel (celV L xs (3 + 1)) 41)) (z := (bel (celV L xs (3 + 2)) 21)) (g := 0) CI_0 (by decide) (by omega) (by omega) (by omega) (Or.inl rfl)
  by_cases hb : (bel (celV L xs (3 + 6)) 3) = 0
  · obtain ⟨S2, b1, b2, b3, -, b5⟩ := k_clock (l := l) (D := D) (ad := ad) (tc := tc) (L := L) (xs := xs) (E := []) (sl := s) (x := 4 + (bel (celV L xs (3 + 3)) 37)) (y := (bel (celV L xs (3 + 4)) 41)) (z := (bel (celV L xs (3 + 5)) 21)) (g := 1) a1 (by decide) (by omega) (by omega) (by omega) (Or.inr rfl)
    refine Gc.of (fun r h' z => ?_) (ch_105 hL b1 ⟨(b3 0 0 (by decide)).trans a4.1, (b3 0 1 (by decide)).trans a4.2.1, (b3 0 2 (by decide)).trans a4.2.2⟩ (by omega) (by omega) (by omega) (by rw [(b2 0 (by decide)).1, (a2 0 (by decide)).1]; decide) hs)
    refine rn_aload_n dL_chip_0 rfl ?_
    refine rn_iconst (v := nI 4) dL_chip_1 (by decide) ?_
    refine rn_aload_n dL_chip_2 rfl ?_
    refine rn_iload_n dL_chip_3 rfl ?_
    refine rn_callS dL_chip_4 cs_L_9 (c_L_cell hL (by omega)) rfl (by decide) (by decide) rfl (Nat.le_of_ble_eq_true rfl) ?_
    refine rn_bipush (v := nI 37) dL_chip_7 (by decide) ?_
    refine rn_callS dL_chip_9 cs_L_15 (c_L_below (by decide) (by decide)) rfl (by decide) (by decide) rfl (Nat.le_of_ble_eq_true rfl) ?_
    refine rn_iadd dL_chip_12 ?_
    refine rn_topi (nI_add _ _) ?_
    refine rn_aload_n dL_chip_13 rfl ?_
    refine rn_iload_n dL_chip_14 rfl ?_
    refine rn_iconst (v := nI 1) dL_chip_15 (by decide) ?_
    refine rn_iadd dL_chip_16 ?_
    refine rn_topi (nI_add _ _) ?_
    refine rn_callS dL_chip_17 cs_L_9 (c_L_cell hL (by omega)) rfl (by decide) (by decide) rfl (Nat.le_of_ble_eq_true rfl) ?_
    refine rn_bipush (v := nI 41) dL_chip_20 (by decide) ?_
    refine rn_callS dL_chip_22 cs_L_15 (c_L_below (by decide) (by decide)) rfl (by decide) (by decide) rfl (Nat.le_of_ble_eq_true rfl) ?_
    refine rn_aload_n dL_chip_25 rfl ?_
    refine rn_iload_n dL_chip_26 rfl ?_
    refine rn_iconst (v := nI 2) dL_chip_27 (by decide) ?_
    refine rn_iadd dL_chip_28 ?_
    refine rn_topi (nI_add _ _) ?_
    refine rn_callS dL_chip_29 cs_L_9 (c_L_cell hL (by omega)) rfl (by decide) (by decide) rfl (Nat.le_of_ble_eq_true rfl) ?_
    refine rn_bipush (v := nI 21) dL_chip_32 (by decide) ?_
    refine rn_callS dL_chip_34 cs_L_15 (c_L_below (by decide) (by decide)) rfl (by decide) (by decide) rfl (Nat.le_of_ble_eq_true rfl) ?_
    refine rn_iconst (v := 0) dL_chip_37 rfl ?_
    refine rn_callV dL_chip_38 cv_L_19 a5 rfl h_SH rfl rfl (by decide) (by decide) rfl (Nat.le_of_ble_eq_true rfl) ?_
    refine rn_pop dL_chip_41 rfl ?_
    refine rn_aload_n dL_chip_42 rfl ?_
    refine rn_iconst (v := nI 4) dL_chip_43 (by decide) ?_
    refine rn_aload_n dL_chip_44 rfl ?_
    refine rn_iload_n dL_chip_45 rfl ?_
    refine rn_iconst (v := nI 3) dL_chip_46 (by decide) ?_
    refine rn_iadd dL_chip_47 ?_
    refine rn_topi (nI_add _ _) ?_
    refine rn_callS dL_chip_48 cs_L_9 (c_L_cell hL (by omega)) rfl (by decide) (by decide) rfl (Nat.le_of_ble_eq_true rfl) ?_
    refine rn_bipush (v := nI 37) dL_chip_51 (by decide) ?_
    refine rn_callS dL_chip_53 cs_L_15 (c_L_below (by decide) (by decide)) rfl (by decide) (by decide) rfl (Nat.le_of_ble_eq_true rfl) ?_
    refine rn_iadd dL_chip_56 ?_
    refine rn_topi (nI_add _ _) ?_
    refine rn_aload_n dL_chip_57 rfl ?_
    refine rn_iload_n dL_chip_58 rfl ?_
    refine rn_iconst (v := nI 4) dL_chip_59 (by decide) ?_
    refine rn_iadd dL_chip_60 ?_
    refine rn_topi (nI_add _ _) ?_
    refine rn_callS dL_chip_61 cs_L_9 (c_L_cell hL (by omega)) rfl (by decide) (by decide) rfl (Nat.le_of_ble_eq_true rfl) ?_
    refine rn_bipush (v := nI 41) dL_chip_64 (by decide) ?_
    refine rn_callS dL_chip_66 cs_L_15 (c_L_below (by decide) (by decide)) rfl (by decide) (by decide) rfl (Nat.le_of_ble_eq_true rfl) ?_
    refine rn_aload_n dL_chip_69 rfl ?_
    refine rn_iload_n dL_chip_70 rfl ?_
    refine rn_iconst (v := nI 5) dL_chip_71 (by decide) ?_
    refine rn_iadd dL_chip_72 ?_
    refine rn_topi (nI_add _ _) ?_
    refine rn_callS dL_chip_73 cs_L_9 (c_L_cell hL (by omega)) rfl (by decide) (by decide) rfl (Nat.le_of_ble_eq_true rfl) ?_
    refine rn_bipush (v := nI 21) dL_chip_76 (by decide) ?_
    refine rn_callS dL_chip_78 cs_L_15 (c_L_below (by decide) (by decide)) rfl (by decide) (by decide) rfl (Nat.le_of_ble_eq_true rfl) ?_
    refine rn_aload_n dL_chip_81 rfl ?_
    refine rn_iload_n dL_chip_82 rfl ?_
    refine rn_bipush (v := nI 6) dL_chip_83 (by decide) ?_
    refine rn_iadd dL_chip_85 ?_
    refine rn_topi (nI_add _ _) ?_
    refine rn_callS dL_chip_86 cs_L_9 (c_L_cell hL (by omega)) rfl (by decide) (by decide) rfl (Nat.le_of_ble_eq_true rfl) ?_
    refine rn_iconst (v := nI 3) dL_chip_89 (by decide) ?_
    refine rn_callS dL_chip_90 cs_L_15 (c_L_below (by decide) (by decide)) rfl (by decide) (by decide) rfl (Nat.le_of_ble_eq_true rfl) ?_
    rw [hb]
    refine rn_if_ne (tgt := 100) dL_chip_93 rfl (fun q1 => absurd q1 (by exact fun z9 => z9 nI_0)) (fun _ => ?_)
    refine rn_iconst (v := 1) dL_chip_96 rfl ?_
    refine rn_goto (tgt := 101) dL_chip_97 rfl ?_
    refine rn_callV dL_chip_101 cv_L_19 b5 rfl h_SH rfl rfl (by decide) (by decide) rfl (Nat.le_of_ble_eq_true rfl) ?_
    refine rn_pop dL_chip_104 rfl ?_
    exact rn_subg rfl z
  · obtain ⟨S2, b1, b2, b3, -, b5⟩ := k_clock (l := l) (D := D) (ad := ad) (tc := tc) (L := L) (xs := xs) (E := []) (sl := s) (x := 4 + (bel (celV L xs (3 + 3)) 37)) (y := (bel (celV L xs (3 + 4)) 41)) (z := (bel (celV L xs (3 + 5)) 21)) (g := 0) a1 (by decide) (by omega) (by omega) (by omega) (Or.inl rfl)
    refine Gc.of (fun r h' z => ?_) (ch_105 hL b1 ⟨(b3 0 0 (by decide)).trans a4.1, (b3 0 1 (by decide)).trans a4.2.1, (b3 0 2 (by decide)).trans a4.2.2⟩ (by omega) (by omega) (by omega) (by rw [(b2 0 (by decide)).1, (a2 0 (by decide)).1]; decide) hs)
    refine rn_aload_n dL_chip_0 rfl ?_
    refine rn_iconst (v := nI 4) dL_chip_1 (by decide) ?_
    refine rn_aload_n dL_chip_2 rfl ?_
    refine rn_iload_n dL_chip_3 rfl ?_
    refine rn_callS dL_chip_4 cs_L_9 (c_L_cell hL (by omega)) rfl (by decide) (by decide) rfl (Nat.le_of_ble_eq_true rfl) ?_
    refine rn_bipush (v := nI 37) dL_chip_7 (by decide) ?_
    refine rn_callS dL_chip_9 cs_L_15 (c_L_below (by decide) (by decide)) rfl (by decide) (by decide) rfl (Nat.le_of_ble_eq_true rfl) ?_
    refine rn_iadd dL_chip_12 ?_
    refine rn_topi (nI_add _ _) ?_
    refine rn_aload_n dL_chip_13 rfl ?_
    refine rn_iload_n dL_chip_14 rfl ?_
    refine rn_iconst (v := nI 1) dL_chip_15 (by decide) ?_
    refine rn_iadd dL_chip_16 ?_
    refine rn_topi (nI_add _ _) ?_
    refine rn_callS dL_chip_17 cs_L_9 (c_L_cell hL (by omega)) rfl (by decide) (by decide) rfl (Nat.le_of_ble_eq_true rfl) ?_
    refine rn_bipush (v := nI 41) dL_chip_20 (by decide) ?_
    refine rn_callS dL_chip_22 cs_L_15 (c_L_below (by decide) (by decide)) rfl (by decide) (by decide) rfl (Nat.le_of_ble_eq_true rfl) ?_
    refine rn_aload_n dL_chip_25 rfl ?_
    refine rn_iload_n dL_chip_26 rfl ?_
    refine rn_iconst (v := nI 2) dL_chip_27 (by decide) ?_
    refine rn_iadd dL_chip_28 ?_
    refine rn_topi (nI_add _ _) ?_
    refine rn_callS dL_chip_29 cs_L_9 (c_L_cell hL (by omega)) rfl (by decide) (by decide) rfl (Nat.le_of_ble_eq_true rfl) ?_
    refine rn_bipush (v := nI 21) dL_chip_32 (by decide) ?_
    refine rn_callS dL_chip_34 cs_L_15 (c_L_below (by decide) (by decide)) rfl (by decide) (by decide) rfl (Nat.le_of_ble_eq_true rfl) ?_
    refine rn_iconst (v := 0) dL_chip_37 rfl ?_
    refine rn_callV dL_chip_38 cv_L_19 a5 rfl h_SH rfl rfl (by decide) (by decide) rfl (Nat.le_of_ble_eq_true rfl) ?_
    refine rn_pop dL_chip_41 rfl ?_
    refine rn_aload_n dL_chip_42 rfl ?_
    refine rn_iconst (v := nI 4) dL_chip_43 (by decide) ?_
    refine rn_aload_n dL_chip_44 rfl ?_
    refine rn_iload_n dL_chip_45 rfl ?_
    refine rn_iconst (v := nI 3) dL_chip_46 (by decide) ?_
    refine rn_iadd dL_chip_47 ?_
    refine rn_topi (nI_add _ _) ?_
    refine rn_callS dL_chip_48 cs_L_9 (c_L_cell hL (by omega)) rfl (by decide) (by decide) rfl (Nat.le_of_ble_eq_true rfl) ?_
    refine rn_bipush (v := nI 37) dL_chip_51 (by decide) ?_
    refine rn_callS dL_chip_53 cs_L_15 (c_L_below (by decide) (by decide)) rfl (by decide) (by decide) rfl (Nat.le_of_ble_eq_true rfl) ?_
    refine rn_iadd dL_chip_56 ?_
    refine rn_topi (nI_add _ _) ?_
    refine rn_aload_n dL_chip_57 rfl ?_
    refine rn_iload_n dL_chip_58 rfl ?_
    refine rn_iconst (v := nI 4) dL_chip_59 (by decide) ?_
    refine rn_iadd dL_chip_60 ?_
    refine rn_topi (nI_add _ _) ?_
    refine rn_callS dL_chip_61 cs_L_9 (c_L_cell hL (by omega)) rfl (by decide) (by decide) rfl (Nat.le_of_ble_eq_true rfl) ?_
    refine rn_bipush (v := nI 41) dL_chip_64 (by decide) ?_
    refine rn_callS dL_chip_66 cs_L_15 (c_L_below (by decide) (by decide)) rfl (by decide) (by decide) rfl (Nat.le_of_ble_eq_true rfl) ?_
    refine rn_aload_n dL_chip_69 rfl ?_
    refine rn_iload_n dL_chip_70 rfl ?_
    refine rn_iconst (v := nI 5) dL_chip_71 (by decide) ?_
    refine rn_iadd dL_chip_72 ?_
    refine rn_topi (nI_add _ _) ?_
    refine rn_callS dL_chip_73 cs_L_9 (c_L_cell hL (by omega)) rfl (by decide) (by decide) rfl (Nat.le_of_ble_eq_true rfl) ?_
    refine rn_bipush (v := nI 21) dL_chip_76 (by decide) ?_
    refine rn_callS dL_chip_78 cs_L_15 (c_L_below (by decide) (by decide)) rfl (by decide) (by decide) rfl (Nat.le_of_ble_eq_true rfl) ?_
    refine rn_aload_n dL_chip_81 rfl ?_
    refine rn_iload_n dL_chip_82 rfl ?_
    refine rn_bipush (v := nI 6) dL_chip_83 (by decide) ?_
    refine rn_iadd dL_chip_85 ?_
    refine rn_topi (nI_add _ _) ?_
    refine rn_callS dL_chip_86 cs_L_9 (c_L_cell hL (by omega)) rfl (by decide) (by decide) rfl (Nat.le_of_ble_eq_true rfl) ?_
    refine rn_iconst (v := nI 3) dL_chip_89 (by decide) ?_
    refine rn_callS dL_chip_90 cs_L_15 (c_L_below (by decide) (by decide)) rfl (by decide) (by decide) rfl (Nat.le_of_ble_eq_true rfl) ?_
    refine rn_if_ne (tgt := 100) dL_chip_93 rfl (fun _ => ?_) (fun q1 => absurd q1 (by exact nI_ne0 (by omega) (by have := bel_lt (v := (celV L xs (3 + 6))) (n := 3) (by decide); omega)))
    refine rn_iconst (v := 0) dL_chip_100 rfl ?_
    refine rn_callV dL_chip_101 cv_L_19 b5 rfl h_SH rfl rfl (by decide) (by decide) rfl (Nat.le_of_ble_eq_true rfl) ?_
    refine rn_pop dL_chip_104 rfl ?_
    exact rn_subg rfl z
theorem c_L_chip (hL : L < 1000) : ∃ S' E', (CI S' 11 0 1 3 ∧ RWs S' E' 11 ∧ E'.length = 23) ∧ Cn l D ad tc L xs mL_chip 6 130 [.ref 1, .ref 0, .int (nI 3), .int (nI 11), .int (nI 7)] (wd s0 [], s) (some (.ref 85)) (wd S' E', s + 187) := by
  obtain ⟨S', E', q, z⟩ := ch_0 (l := l) (D := D) (ad := ad) (tc := tc) (xs := xs) (s := s) hL rfl
  refine ⟨S', E', q, cn_of (lv0 := [(0, .ref 1), (1, .ref 0), (2, .int (nI 3)), (3, .int (nI 11)), (4, .int (nI 7))]) (by decide +kernel) ⟨_, rfl, rfl⟩ (fun _ => by simp [lg_sl, j_v, Value.category]) (fun _ => rfl) ?_⟩
  exact rn_subg rfl z
end CH2
