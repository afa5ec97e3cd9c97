/-! Asking: leastOfAll -/
def vLA (Q : QC) (b : Bool) : Nat → Int
  | 0 => 409595904
  | c + 1 => min (vLA Q b c) (mLe Q.X (Q.T (jOf c b)).2.2.1 Q.n)
theorem T_ok {Q : QC} {S : jS} {j : Nat} (h : Inq Q S) (hj : j < 7) (hj1 : 1 ≤ j) : okT (Q.T j) := by
  have hd := Inq_d h
  have hc := hd.1.1.2.2.1 ((j - 1) / 2) (by omega)
  have hn := h.1.1.1.2
  unfold QC.T
  rw [← mRk_s (Inq_TA hd.1) hn]
  exact mRk_ok hd.1.1.1 hd.2.2.2.2.1.2.2.2 (rises_of hd.1.1 hd.2.2.2.2.2 hj1) hc.2.2.1 hc.2.2.2 ⟨fun x => by show (0 : Int) ≤ 0 ∧ (0 : Int) ≤ _; omega, fun x => by show (-20000000 : Int) ≤ 0 ∧ (0 : Int) ≤ 20000000; omega, fun x => by show (-20000000 : Int) ≤ 0 ∧ (0 : Int) ≤ 409595904; omega, fun x => by show (0 : Int) ≤ 0 ∧ (0 : Int) ≤ 400000; omega⟩
theorem vLA_r {Q : QC} {S : jS} {b : Bool} (h : Inq Q S) : ∀ c, c ≤ 3 → -20000000 ≤ vLA Q b c ∧ vLA Q b c ≤ 409595904
  | 0, _ => by unfold vLA; omega
  | c + 1, hc => by
    have ih := vLA_r (b := b) h c (by omega)
    have hr := mLe_r (S := Q.X) (T_ok h (jOf_l (b := b) (show c < 3 by omega)) jOf_1).2.2.1 Q.n
    unfold vLA
    omega
theorem q_mLe {Q : QC} {S : jS} {j : Nat} (h : Inq Q S) (ha : Q.A (tOf S j) j) : mLe S (tOf S j).2.2.1 Q.n = mLe Q.X (Q.T j).2.2.1 Q.n := by
  rw [mLe_s h.2.2.2.1]
  exact mLe_c (Inq_X h).1 (Inq_X h).2 (fun e he hk => (ha.2.1 e he hk).2) Q.n (Nat.le_refl _)
section Q2
variable {l : Launch} {D : va_G} {ad : Nat → Nat} {tc : Nat → ClassId} {L : Nat} {xs : Nat → Int32} {S : jS} {E : List j_C} {sl x : Nat} {Q : QC}
theorem q_least {j : Nat} (h : Inq Q S) (ha : Q.A (tOf S j) j) (hj : j < 7) : Cn l D ad tc L xs mX8_leastOfEnds 1 23 [.ref (5 * j + 50)] (wd S E, sl) (some (.double (dv (mLe Q.X (Q.T j).2.2.1 Q.n)))) (wd S E, sl) := by
  have hk := c_X8_leastOfEnds (l := l) (D := D) (ad := ad) (tc := tc) (L := L) (xs := xs) (E := E) (sl := sl) (S := S) hj h.1.1 (h.1.2.2.2.1 j hj).1.2.2.1 (h.1.2.2.2.1 j hj).2.2.2.1
  rw [q_mLe h ha] at hk
  exact hk
set_option maxRecDepth 20000 in
theorem lp_la {b : Bool} (hnc : Q.nc ≤ 3) : ∀ m k : Nat, k + m = Q.nc → ∀ S, Inq Q S → ∃ S', Inq Q S' ∧ Rn l D ad tc L xs mX0_leastOfAll 5 130 7 [(4, .int (nI k)), (2, .double (dv (vLA Q b k))), (0, .ref 36), (1, .int (bI b))] [] (wd S E, sl) (some (.double (dv (vLA Q b Q.nc)))) (wd S' E, sl) := by
  intro m
  induction m with
  | zero =>
    intro k hk S h
    obtain ⟨n0, hn0⟩ : ∃ n0, n0 = Q.nc := ⟨_, rfl⟩
    have hk' : n0 = k := by omega
    rw [← hn0]
    subst hk'
    have hN1 : sI S 1 5 = nI n0 := by rw [hn0]; exact h.1.1.2.2.1.1
    refine ⟨S, h, ?_⟩
    refine rn_iload dX0_leastOfAll_7 rfl ?_
    refine rn_aload_n dX0_leastOfAll_9 rfl ?_
    refine rn_getfield dX0_leastOfAll_10 fo_X0_20 h_an rfl ?_
    refine rn_getfield dX0_leastOfAll_13 fo_X0_72 h_chip rfl ?_
    refine rn_topi hN1 ?_
    refine rn_icmp_ge (tgt := 40) dX0_leastOfAll_16 rfl (fun _ => ?_) (fun q1 => absurd (by exact Int32.le_refl _) q1)
    refine rn_dload_n dX0_leastOfAll_40 rfl ?_
    exact rn_ret dX0_leastOfAll_41 trivial (by rw [hn0]; rfl)
  | succ m ih =>
    intro k hk S h
    obtain ⟨n0, hn0⟩ : ∃ n0, n0 = Q.nc := ⟨_, rfl⟩
    have hN1 : sI S 1 5 = nI n0 := by rw [hn0]; exact h.1.1.2.2.1.1
    have hkn : k < n0 := by omega
    have hj := jOf_l (b := b) (show k < 3 by omega)
    have hn3 : n0 ≤ 3 := by omega
    have hv := vLA_r (b := b) h k (by omega)
    have hr := mLe_r (S := Q.X) (T_ok h hj jOf_1).2.2.1 Q.n
    obtain ⟨S1, h1, a1, k1⟩ := q_timing (l := l) (D := D) (ad := ad) (tc := tc) (L := L) (xs := xs) (E := E) (sl := sl) (b := b) h (show k < 3 by omega)
    have k2 := q_least (l := l) (D := D) (ad := ad) (tc := tc) (L := L) (xs := xs) (E := E) (sl := sl) h1 a1 hj
    obtain ⟨S', h', ih⟩ := ih (k + 1) (by omega) S1 h1
    refine ⟨S', h', ?_⟩
    refine rn_iload dX0_leastOfAll_7 rfl ?_
    refine rn_aload_n dX0_leastOfAll_9 rfl ?_
    refine rn_getfield dX0_leastOfAll_10 fo_X0_20 h_an rfl ?_
    refine rn_getfield dX0_leastOfAll_13 fo_X0_72 h_chip rfl ?_
    refine rn_topi hN1 ?_
    refine rn_icmp_ge (tgt := 40) dX0_leastOfAll_16 rfl (fun q1 => absurd q1 (by rw [Int32.le_iff_toInt_le, nI_toInt (by omega), nI_toInt (by omega)] at q1; omega)) (fun _ => ?_)
    refine rn_dload_n dX0_leastOfAll_19 rfl ?_
    refine rn_aload_n dX0_leastOfAll_20 rfl ?_
    refine rn_iload dX0_leastOfAll_21 rfl ?_
    refine rn_iload_n dX0_leastOfAll_23 rfl ?_
    refine rn_callV dX0_leastOfAll_24 cv_X0_76 k1 rfl h_an rfl rfl (by decide) (by decide) rfl (Nat.le_of_ble_eq_true rfl) ?_
    refine rn_callV dX0_leastOfAll_27 cv_X0_80 k2 rfl (h_tim (by omega)) rfl rfl (by decide) (by decide) rfl (Nat.le_of_ble_eq_true rfl) ?_
    refine rn_callSN dX0_leastOfAll_30 csn_X0_84 (c_X9_smaller (dB_of (by omega) (by omega)) (dB_of (by omega) (by omega))) rfl (by decide) (by decide) rfl (Nat.le_of_ble_eq_true rfl) ?_
    refine rn_dstore_n dX0_leastOfAll_33 (by decide) rfl ?_
    refine rn_iinc dX0_leastOfAll_34 rfl (nI_1 _) (by decide) rfl ?_
    refine rn_goto (tgt := 7) dX0_leastOfAll_37 rfl ?_
    exact rn_subg rfl ih
set_option maxRecDepth 20000 in
theorem q_leastOfAll {b : Bool} (h : Inq Q S): ∃ S', Inq Q S' ∧ Cn l D ad tc L xs mX0_leastOfAll 5 130 [.ref 36, .int (bI b)] (wd S E, sl) (some (.double (dv (vLA Q b Q.nc)))) (wd S' E, sl) := by
  obtain ⟨S', h', k0⟩ := lp_la (l := l) (D := D) (ad := ad) (tc := tc) (L := L) (xs := xs) (E := E) (sl := sl) (b := b) (Q := Q) h.1.1.2.2.1.2.2 Q.nc 0 (by omega) S h
  refine ⟨S', h', ?_⟩
  refine cn_of (lv0 := [(0, .ref 36), (1, .int (bI b))]) (by decide +kernel) rfl (fun _ => by simp [lg_sl, j_v, Value.category]) (fun _ => rfl) ?_
  refine rn_dcon (n := 0) (m := 409595904) dX0_leastOfAll_0 wd_44 (by decide +kernel) ?_
  refine rn_dstore_n dX0_leastOfAll_3 (by decide) rfl ?_
  refine rn_iconst (v := 0) dX0_leastOfAll_4 rfl ?_
  refine rn_istore dX0_leastOfAll_5 (by decide) rfl ?_
  exact rn_subg rfl k0
end Q2
