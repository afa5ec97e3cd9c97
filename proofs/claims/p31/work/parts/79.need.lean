/-! Asking: the ends in need -/
def fE (Q : QC) (b : Bool) (e : Nat) : Nat → Bool
  | 0 => false
  | c + 1 => fE Q b e c || decide ((Q.T (jOf c b)).2.2.1 e < 0)
def vEN (Q : QC) (b : Bool) : Nat → Int32
  | 0 => 0
  | e + 1 => vEN Q b e + (if enB Q.X e = true ∧ fE Q b e Q.nc = true then 1 else 0)
theorem q_M {Q : QC} {S : jS} {j e : Nat} (h : Inq Q S) (ha : Q.A (tOf S j) j) (hj : j < 7) (he : e < Q.n) (hk : enB Q.X e = true) : sD S (5 * j + 52) e = dv ((Q.T j).2.2.1 e) := by
  have hkk : kd Q.X e = 6 ∨ kd Q.X e = 7 ∨ kd Q.X e = 8 := of_decide_eq_true hk
  have hm := (ha.2.1 e he hkk).2
  rw [← hm]
  exact congrFun (h.1.2.2.2.1 j hj).1.2.2.1 e
section Q5
variable {l : Launch} {D : va_G} {ad : Nat → Nat} {tc : Nat → ClassId} {L : Nat} {xs : Nat → Int32} {S : jS} {E : List j_C} {sl x : Nat} {Q : QC}
set_option maxRecDepth 20000 in
theorem lp_enc {b : Bool} {e : Nat} {cnt : Int32} (he : e < Q.n) (hk : enB Q.X e = true) : ∀ m c : Nat, c + m = Q.nc → ∀ S, Inq Q S → ∃ S', Inq Q S' ∧ ∀ r h', Rn l D ad tc L xs mX0_endsInNeed 5 130 82 [(4, .int (bI (fE Q b e Q.nc))), (3, .int (nI e)), (2, .int cnt), (0, .ref 36), (1, .int (bI b))] [] (wd S' E, sl) r h' → Rn l D ad tc L xs mX0_endsInNeed 5 130 21 [(5, .int (nI c)), (4, .int (bI (fE Q b e c))), (3, .int (nI e)), (2, .int cnt), (0, .ref 36), (1, .int (bI b))] [] (wd S E, sl) r h' := by
  intro m
  induction m with
  | zero =>
    intro c hc S h
    obtain ⟨n0, hn0⟩ : ∃ n0, n0 = Q.nc := ⟨_, rfl⟩
    have hk' : n0 = c := by omega
    rw [← hn0]
    subst hk'
    have hN1 : sI S 1 5 = nI n0 := by rw [hn0]; exact h.1.1.2.2.1.1
    refine ⟨S, h, fun r h' K => ?_⟩
    refine rn_iload dX0_endsInNeed_21 rfl ?_
    refine rn_aload_n dX0_endsInNeed_23 rfl ?_
    refine rn_getfield dX0_endsInNeed_24 fo_X0_20 h_an rfl ?_
    refine rn_getfield dX0_endsInNeed_27 fo_X0_72 h_chip rfl ?_
    refine rn_topi hN1 ?_
    refine rn_icmp_ge (tgt := 82) dX0_endsInNeed_30 rfl (fun _ => ?_) (fun q1 => absurd (by exact Int32.le_refl _) q1)
    exact rn_subg rfl K
  | succ m ih =>
    intro c hc S h
    obtain ⟨n0, hn0⟩ : ∃ n0, n0 = Q.nc := ⟨_, rfl⟩
    have hN1 : sI S 1 5 = nI n0 := by rw [hn0]; exact h.1.1.2.2.1.1
    have hcn : c < n0 := by omega
    have hn3 : n0 ≤ 3 := by have := h.1.1.2.2.1.2.2; omega
    have hn16 := h.1.1.1.2
    have hen : enB S e = true := (enB_s (TZ_of (Inq_TS h)) (by omega)).trans hk
    cases hf : fE Q b e c with
    | true =>
      obtain ⟨S', h', kk⟩ := ih (c + 1) (by omega) S h
      refine ⟨S', h', fun r hh K => ?_⟩
      have KJ : Rn l D ad tc L xs mX0_endsInNeed 5 130 76 [(5, .int (nI c)), (4, .int (bI (fE Q b e (c + 1)))), (3, .int (nI e)), (2, .int cnt), (0, .ref 36), (1, .int (bI b))] [] (wd S E, sl) r hh := by
        refine rn_iinc dX0_endsInNeed_76 rfl (nI_1 _) (by decide) rfl ?_
        refine rn_goto (tgt := 21) dX0_endsInNeed_79 rfl ?_
        exact rn_subg rfl (kk _ _ K)
      rw [show fE Q b e (c + 1) = true by unfold fE; rw [hf]; rfl] at KJ
      have hF : ¬ bI true = 0 := by decide
      refine rn_iload dX0_endsInNeed_21 rfl ?_
      refine rn_aload_n dX0_endsInNeed_23 rfl ?_
      refine rn_getfield dX0_endsInNeed_24 fo_X0_20 h_an rfl ?_
      refine rn_getfield dX0_endsInNeed_27 fo_X0_72 h_chip rfl ?_
      refine rn_topi hN1 ?_
      refine rn_icmp_ge (tgt := 82) dX0_endsInNeed_30 rfl (fun q1 => absurd q1 (by rw [Int32.le_iff_toInt_le, nI_toInt (by omega), nI_toInt (by omega)] at q1; omega)) (fun _ => ?_)
      refine rn_aload_n dX0_endsInNeed_33 rfl ?_
      refine rn_getfield dX0_endsInNeed_34 fo_X0_20 h_an rfl ?_
      refine rn_getfield dX0_endsInNeed_37 fo_X0_91 h_chip rfl ?_
      refine rn_iload_n dX0_endsInNeed_40 rfl ?_
      refine rn_aaload dX0_endsInNeed_41 h_nodes rfl (vp_in_nI (by omega) (by decide)) (refs_at rfl (by omega) (by decide)) ?_
      refine rn_callV dX0_endsInNeed_42 cv_X0_95 (c_X5_isEndKind (by omega)) rfl (h_node (by omega)) rfl rfl (by decide) (by decide) rfl (Nat.le_of_ble_eq_true rfl) ?_
      refine rn_if_eq (tgt := 82) dX0_endsInNeed_45 rfl (fun q2 => absurd q2 (by exact fun z => absurd (bI_0.mp z) (by rw [show decide (sI S (e + 13) 0 = 6 ∨ sI S (e + 13) 0 = 7 ∨ sI S (e + 13) 0 = 8) = true from hen]; decide))) (fun _ => ?_)
      refine rn_iload dX0_endsInNeed_48 rfl ?_
      refine rn_if_ne (tgt := 69) dX0_endsInNeed_50 rfl (fun _ => ?_) (fun q3 => absurd q3 (by exact hF))
      refine rn_iconst (v := 1) dX0_endsInNeed_69 rfl ?_
      refine rn_goto (tgt := 74) dX0_endsInNeed_70 rfl ?_
      refine rn_istore dX0_endsInNeed_74 (by decide) rfl ?_
      exact rn_subg rfl KJ
    | false =>
      have hj := jOf_l (b := b) (show c < 3 by omega)
      obtain ⟨S1, h1, a1, k1⟩ := q_timing (l := l) (D := D) (ad := ad) (tc := tc) (L := L) (xs := xs) (E := E) (sl := sl) (b := b) h (show c < 3 by omega)
      obtain ⟨S', h', kk⟩ := ih (c + 1) (by omega) S1 h1
      have hMv := q_M h1 a1 hj he hk
      have hMr := (T_ok h1 hj jOf_1).2.2.1 e
      refine ⟨S', h', fun r hh K => ?_⟩
      have KJ : Rn l D ad tc L xs mX0_endsInNeed 5 130 76 [(5, .int (nI c)), (4, .int (bI (fE Q b e (c + 1)))), (3, .int (nI e)), (2, .int cnt), (0, .ref 36), (1, .int (bI b))] [] (wd S1 E, sl) r hh := by
        refine rn_iinc dX0_endsInNeed_76 rfl (nI_1 _) (by decide) rfl ?_
        refine rn_goto (tgt := 21) dX0_endsInNeed_79 rfl ?_
        exact rn_subg rfl (kk _ _ K)
      rw [show fE Q b e (c + 1) = decide ((Q.T (jOf c b)).2.2.1 e < 0) by unfold fE; rw [hf]; rfl] at KJ
      refine rn_iload dX0_endsInNeed_21 rfl ?_
      refine rn_aload_n dX0_endsInNeed_23 rfl ?_
      refine rn_getfield dX0_endsInNeed_24 fo_X0_20 h_an rfl ?_
      refine rn_getfield dX0_endsInNeed_27 fo_X0_72 h_chip rfl ?_
      refine rn_topi hN1 ?_
      refine rn_icmp_ge (tgt := 82) dX0_endsInNeed_30 rfl (fun q1 => absurd q1 (by rw [Int32.le_iff_toInt_le, nI_toInt (by omega), nI_toInt (by omega)] at q1; omega)) (fun _ => ?_)
      refine rn_aload_n dX0_endsInNeed_33 rfl ?_
      refine rn_getfield dX0_endsInNeed_34 fo_X0_20 h_an rfl ?_
      refine rn_getfield dX0_endsInNeed_37 fo_X0_91 h_chip rfl ?_
      refine rn_iload_n dX0_endsInNeed_40 rfl ?_
      refine rn_aaload dX0_endsInNeed_41 h_nodes rfl (vp_in_nI (by omega) (by decide)) (refs_at rfl (by omega) (by decide)) ?_
      refine rn_callV dX0_endsInNeed_42 cv_X0_95 (c_X5_isEndKind (by omega)) rfl (h_node (by omega)) rfl rfl (by decide) (by decide) rfl (Nat.le_of_ble_eq_true rfl) ?_
      refine rn_if_eq (tgt := 82) dX0_endsInNeed_45 rfl (fun q2 => absurd q2 (by exact fun z => absurd (bI_0.mp z) (by rw [show decide (sI S (e + 13) 0 = 6 ∨ sI S (e + 13) 0 = 7 ∨ sI S (e + 13) 0 = 8) = true from hen]; decide))) (fun _ => ?_)
      refine rn_iload dX0_endsInNeed_48 rfl ?_
      refine rn_if_ne (tgt := 69) dX0_endsInNeed_50 rfl (fun q3 => absurd q3 (by exact fun z => z rfl)) (fun _ => ?_)
      refine rn_aload_n dX0_endsInNeed_53 rfl ?_
      refine rn_iload dX0_endsInNeed_54 rfl ?_
      refine rn_iload_n dX0_endsInNeed_56 rfl ?_
      refine rn_callV dX0_endsInNeed_57 cv_X0_76 k1 rfl h_an rfl rfl (by decide) (by decide) rfl (Nat.le_of_ble_eq_true rfl) ?_
      refine rn_iload_n dX0_endsInNeed_60 rfl ?_
      refine rn_callV dX0_endsInNeed_61 cv_X0_101 (c_X8_leastAt hj (by omega)) rfl (h_tim (by omega)) rfl rfl (by decide) (by decide) rfl (Nat.le_of_ble_eq_true rfl) ?_
      rw [hMv]
      refine rn_dcon0 dX0_endsInNeed_64 ?_
      refine rn_dcmpv dX0_endsInNeed_65 (dB_of (by omega) (by omega)) (dB_of (by omega) (by omega)) ?_
      refine rn_if_ge (tgt := 73) dX0_endsInNeed_66 rfl (fun q4 => ?_) (fun q4 => ?_)
      · rw [show decide ((Q.T (jOf c b)).2.2.1 e < 0) = false from decide_eq_false (fun z => absurd (cmpI_lt.mpr z) (Int32.not_lt.mpr q4))] at KJ
        refine rn_iconst (v := 0) dX0_endsInNeed_73 rfl ?_
        refine rn_istore dX0_endsInNeed_74 (by decide) rfl ?_
        exact rn_subg rfl KJ
      · rw [show decide ((Q.T (jOf c b)).2.2.1 e < 0) = true from decide_eq_true (cmpI_lt.mp (Int32.not_le.mp q4))] at KJ
        refine rn_iconst (v := 1) dX0_endsInNeed_69 rfl ?_
        refine rn_goto (tgt := 74) dX0_endsInNeed_70 rfl ?_
        refine rn_istore dX0_endsInNeed_74 (by decide) rfl ?_
        exact rn_subg rfl KJ
set_option maxRecDepth 20000 in
theorem lp_e82 {b f : Bool} {e : Nat} {cnt : Int32} {r : Option Value} {h' : j_H} (K : Rn l D ad tc L xs mX0_endsInNeed 5 130 95 [(3, .int (nI e)), (2, .int (cnt + (if f = true then 1 else 0))), (0, .ref 36), (1, .int (bI b))] [] (wd S E, sl) r h') : Rn l D ad tc L xs mX0_endsInNeed 5 130 82 [(4, .int (bI f)), (3, .int (nI e)), (2, .int cnt), (0, .ref 36), (1, .int (bI b))] [] (wd S E, sl) r h' := by
  cases f with
  | true =>
    rw [if_pos rfl] at K
    refine rn_iload_n dX0_endsInNeed_82 rfl ?_
    refine rn_iload dX0_endsInNeed_83 rfl ?_
    refine rn_if_eq (tgt := 92) dX0_endsInNeed_85 rfl (fun q1 => absurd q1 (by decide)) (fun _ => ?_)
    refine rn_iconst (v := 1) dX0_endsInNeed_88 rfl ?_
    refine rn_goto (tgt := 93) dX0_endsInNeed_89 rfl ?_
    refine rn_iadd dX0_endsInNeed_93 ?_
    refine rn_istore_n dX0_endsInNeed_94 (by decide) rfl ?_
    exact rn_subg rfl K
  | false =>
    rw [if_neg (by decide)] at K
    refine rn_iload_n dX0_endsInNeed_82 rfl ?_
    refine rn_iload dX0_endsInNeed_83 rfl ?_
    refine rn_if_eq (tgt := 92) dX0_endsInNeed_85 rfl (fun _ => ?_) (fun q1 => absurd (by rfl) q1)
    refine rn_iconst (v := nI 0) dX0_endsInNeed_92 (by decide) ?_
    refine rn_iadd dX0_endsInNeed_93 ?_
    refine rn_istore_n dX0_endsInNeed_94 (by decide) rfl ?_
    exact rn_subg rfl K
set_option maxRecDepth 20000 in
theorem lp_en1 {b : Bool} {e : Nat} {cnt : Int32} (h : Inq Q S) (he : e < Q.n) : ∃ S', Inq Q S' ∧ ∀ r h', Rn l D ad tc L xs mX0_endsInNeed 5 130 95 [(3, .int (nI e)), (2, .int (cnt + (if enB Q.X e = true ∧ fE Q b e Q.nc = true then 1 else 0))), (0, .ref 36), (1, .int (bI b))] [] (wd S' E, sl) r h' → Rn l D ad tc L xs mX0_endsInNeed 5 130 15 [(3, .int (nI e)), (2, .int (cnt)), (0, .ref 36), (1, .int (bI b))] [] (wd S E, sl) r h' := by
  have hn16 := h.1.1.1.2
  cases hk : enB Q.X e with
  | true =>
    obtain ⟨S', h', k1⟩ := lp_enc (l := l) (D := D) (ad := ad) (tc := tc) (L := L) (xs := xs) (E := E) (sl := sl) (b := b) (cnt := cnt) he hk Q.nc 0 (by omega) S h
    refine ⟨S', h', fun r hh K => ?_⟩
    simp only [true_and] at K
    refine rn_iconst (v := 0) dX0_endsInNeed_15 rfl ?_
    refine rn_istore dX0_endsInNeed_16 (by decide) rfl ?_
    refine rn_iconst (v := nI 0) dX0_endsInNeed_18 (by decide) ?_
    refine rn_istore dX0_endsInNeed_19 (by decide) rfl ?_
    exact rn_subg (lv' := [(5, .int (nI 0)), (4, .int (bI (fE Q b e 0))), (3, .int (nI e)), (2, .int cnt), (0, .ref 36), (1, .int (bI b))]) rfl (k1 _ _ (lp_e82 K))
  | false =>
    have hN1 : sI S 1 5 = nI Q.nc := h.1.1.2.2.1.1
    obtain ⟨n0, hn0⟩ : ∃ n0, n0 = Q.nc := ⟨_, rfl⟩
    rw [← hn0] at hN1
    have hc1 : 1 ≤ n0 := by have := h.1.1.2.2.1.2.1; omega
    have hc3 : n0 ≤ 3 := by have := h.1.1.2.2.1.2.2; omega
    have hen : bI (decide (sI S (e + 13) 0 = 6 ∨ sI S (e + 13) 0 = 7 ∨ sI S (e + 13) 0 = 8)) = 0 := by
      rw [show decide (sI S (e + 13) 0 = 6 ∨ sI S (e + 13) 0 = 7 ∨ sI S (e + 13) 0 = 8) = false from (enB_s (TZ_of (Inq_TS h)) (by omega)).trans hk]
      rfl
    refine ⟨S, h, fun r hh K => ?_⟩
    rw [if_neg (fun z => absurd z.1 (by decide))] at K
    refine rn_iconst (v := 0) dX0_endsInNeed_15 rfl ?_
    refine rn_istore dX0_endsInNeed_16 (by decide) rfl ?_
    refine rn_iconst (v := nI 0) dX0_endsInNeed_18 (by decide) ?_
    refine rn_istore dX0_endsInNeed_19 (by decide) rfl ?_
    refine rn_iload dX0_endsInNeed_21 rfl ?_
    refine rn_aload_n dX0_endsInNeed_23 rfl ?_
    refine rn_getfield dX0_endsInNeed_24 fo_X0_20 h_an rfl ?_
    refine rn_getfield dX0_endsInNeed_27 fo_X0_72 h_chip rfl ?_
    refine rn_topi hN1 ?_
    refine rn_icmp_ge (tgt := 82) dX0_endsInNeed_30 rfl (fun q1 => absurd q1 (by rw [Int32.le_iff_toInt_le, nI_toInt (by omega), nI_toInt (by omega)] at q1; omega)) (fun _ => ?_)
    refine rn_aload_n dX0_endsInNeed_33 rfl ?_
    refine rn_getfield dX0_endsInNeed_34 fo_X0_20 h_an rfl ?_
    refine rn_getfield dX0_endsInNeed_37 fo_X0_91 h_chip rfl ?_
    refine rn_iload_n dX0_endsInNeed_40 rfl ?_
    refine rn_aaload dX0_endsInNeed_41 h_nodes rfl (vp_in_nI (by omega) (by decide)) (refs_at rfl (by omega) (by decide)) ?_
    refine rn_callV dX0_endsInNeed_42 cv_X0_95 (c_X5_isEndKind (by omega)) rfl (h_node (by omega)) rfl rfl (by decide) (by decide) rfl (Nat.le_of_ble_eq_true rfl) ?_
    refine rn_if_eq (tgt := 82) dX0_endsInNeed_45 rfl (fun _ => ?_) (fun q2 => absurd (by exact hen) q2)
    exact rn_subg rfl (lp_e82 (f := false) (by rw [if_neg (by decide)]; exact K))
set_option maxRecDepth 20000 in
theorem lp_en {b : Bool} : ∀ m k : Nat, k + m = Q.n → ∀ S, Inq Q S → ∃ S', Inq Q S' ∧ Rn l D ad tc L xs mX0_endsInNeed 5 130 4 [(3, .int (nI k)), (2, .int (vEN Q b k)), (0, .ref 36), (1, .int (bI b))] [] (wd S E, sl) (some (.int (vEN Q b Q.n))) (wd S' E, sl) := by
  intro m
  induction m with
  | zero =>
    intro k hk S h
    obtain ⟨n0, hn0⟩ : ∃ n0, n0 = Q.n := ⟨_, rfl⟩
    have hk' : n0 = k := by omega
    rw [← hn0]
    subst hk'
    have hN1 : sI S 1 6 = nI n0 := by rw [hn0]; exact h.1.1.1.1
    refine ⟨S, h, ?_⟩
    refine rn_iload_n dX0_endsInNeed_4 rfl ?_
    refine rn_aload_n dX0_endsInNeed_5 rfl ?_
    refine rn_getfield dX0_endsInNeed_6 fo_X0_20 h_an rfl ?_
    refine rn_getfield dX0_endsInNeed_9 fo_X0_88 h_chip rfl ?_
    refine rn_topi hN1 ?_
    refine rn_icmp_ge (tgt := 101) dX0_endsInNeed_12 rfl (fun _ => ?_) (fun q1 => absurd (by exact Int32.le_refl _) q1)
    refine rn_iload_n dX0_endsInNeed_101 rfl ?_
    exact rn_ret dX0_endsInNeed_102 trivial (by rw [hn0]; rfl)
  | succ m ih =>
    intro k hk S h
    obtain ⟨n0, hn0⟩ : ∃ n0, n0 = Q.n := ⟨_, rfl⟩
    have hN1 : sI S 1 6 = nI n0 := by rw [hn0]; exact h.1.1.1.1
    have hkn : k < n0 := by omega
    have hn16 := h.1.1.1.2
    obtain ⟨S1, h1, k1⟩ := lp_en1 (l := l) (D := D) (ad := ad) (tc := tc) (L := L) (xs := xs) (E := E) (sl := sl) (b := b) (cnt := vEN Q b k) h (show k < Q.n by omega)
    obtain ⟨S', h', ih⟩ := ih (k + 1) (by omega) S1 h1
    refine ⟨S', h', ?_⟩
    have KJ : Rn l D ad tc L xs mX0_endsInNeed 5 130 95 [(3, .int (nI k)), (2, .int (vEN Q b k + (if enB Q.X k = true ∧ fE Q b k Q.nc = true then 1 else 0))), (0, .ref 36), (1, .int (bI b))] [] (wd S1 E, sl) (some (.int (vEN Q b Q.n))) (wd S' E, sl) := by
      refine rn_iinc dX0_endsInNeed_95 rfl (nI_1 _) (by decide) rfl ?_
      refine rn_goto (tgt := 4) dX0_endsInNeed_98 rfl ?_
      exact rn_subg rfl ih
    refine rn_iload_n dX0_endsInNeed_4 rfl ?_
    refine rn_aload_n dX0_endsInNeed_5 rfl ?_
    refine rn_getfield dX0_endsInNeed_6 fo_X0_20 h_an rfl ?_
    refine rn_getfield dX0_endsInNeed_9 fo_X0_88 h_chip rfl ?_
    refine rn_topi hN1 ?_
    refine rn_icmp_ge (tgt := 101) dX0_endsInNeed_12 rfl (fun q1 => absurd q1 (by rw [Int32.le_iff_toInt_le, nI_toInt (by omega), nI_toInt (by omega)] at q1; omega)) (fun _ => ?_)
    exact rn_subg rfl (k1 _ _ KJ)
set_option maxRecDepth 20000 in
theorem q_endsInNeed {b : Bool} (h : Inq Q S): ∃ S', Inq Q S' ∧ Cn l D ad tc L xs mX0_endsInNeed 5 130 [.ref 36, .int (bI b)] (wd S E, sl) (some (.int (vEN Q b Q.n))) (wd S' E, sl) := by
  obtain ⟨S', h', kb⟩ := lp_en (l := l) (D := D) (ad := ad) (tc := tc) (L := L) (xs := xs) (E := E) (sl := sl) (b := b) (Q := Q) Q.n 0 (by omega) S h
  refine ⟨S', h', ?_⟩
  refine cn_of (lv0 := [(0, .ref 36), (1, .int (bI b))]) (by decide +kernel) ⟨_, rfl, rfl⟩ (fun _ => by simp [lg_sl, j_v, Value.category]) (fun _ => rfl) ?_
  refine rn_iconst (v := 0) dX0_endsInNeed_0 rfl ?_
  refine rn_istore_n dX0_endsInNeed_1 (by decide) rfl ?_
  refine rn_iconst (v := nI 0) dX0_endsInNeed_2 (by decide) ?_
  refine rn_istore_n dX0_endsInNeed_3 (by decide) rfl ?_
  exact rn_subg (lv' := [(3, .int (nI 0)), (2, .int (vEN Q b 0)), (0, .ref 36), (1, .int (bI b))]) rfl kb
end Q5
