/-! Timing: the worst start, and the worst way's last node -/
def mWs (S : jS) (e : Nat) (Z : Nat → Int) : Nat → Int32
  | 0 => -1
  | s + 1 => if bitR (sA S 40) s e = true ∧ (mWs S e Z s = -1 ∨ mLo S e Z s < mLo S e Z (mWs S e Z s).toNatClampNeg) then nI s else mWs S e Z s
theorem mWs_t {S : jS} {e s : Nat} {Z : Nat → Int} (h : bitR (sA S 40) s e = true) (h2 : mWs S e Z s = -1 ∨ mLo S e Z s < mLo S e Z (mWs S e Z s).toNatClampNeg) : mWs S e Z (s + 1) = nI s := if_pos ⟨h, h2⟩
theorem mWs_f {S : jS} {e s : Nat} {Z : Nat → Int} (h : bitR (sA S 40) s e = false) : mWs S e Z (s + 1) = mWs S e Z s := if_neg (fun z => by rw [h] at z; exact absurd z.1 (by decide))
theorem mWs_g {S : jS} {e s : Nat} {Z : Nat → Int} (h : ¬ (mWs S e Z s = -1 ∨ mLo S e Z s < mLo S e Z (mWs S e Z s).toNatClampNeg)) : mWs S e Z (s + 1) = mWs S e Z s := if_neg (fun z => h z.2)
theorem mWs_r {S : jS} {e : Nat} {Z : Nat → Int} : ∀ s, mWs S e Z s = -1 ∨ ∃ a, a < s ∧ mWs S e Z s = nI a
  | 0 => Or.inl rfl
  | s + 1 => by
    unfold mWs
    split
    · exact Or.inr ⟨s, by omega, rfl⟩
    · rcases mWs_r (S := S) (e := e) (Z := Z) s with h | ⟨a, h1, h2⟩
      · exact Or.inl h
      · exact Or.inr ⟨a, by omega, h2⟩
theorem mLo_c {S : jS} {n e s : Nat} {Z Z' : Nat → Int} (h : agZ S n e Z Z') (hs : s < n) : mLo S e Z s = mLo S e Z' s := by
  unfold mLo
  by_cases hb : bitR (sA S 40) s e = true
  · rw [if_pos hb, if_pos hb, h s hs hb]
  · rw [if_neg hb, if_neg hb]
theorem mWs_c {S : jS} {n e : Nat} {Z Z' : Nat → Int} (hn : n ≤ 16) (h : agZ S n e Z Z') : ∀ m, m ≤ n → mWs S e Z m = mWs S e Z' m
  | 0, _ => rfl
  | m + 1, hm => by
    have ih := mWs_c hn h m (by omega)
    unfold mWs
    rw [ih, mLo_c h (by omega)]
    rcases mWs_r (S := S) (e := e) (Z := Z') m with h1 | ⟨a, h1, h2⟩
    · rw [h1]
      simp
    · rw [h2, nI_clamp (by omega), mLo_c h (show a < n by omega)]
theorem mWs_s {S S' : jS} (h : S'.2.1 = S.2.1) {e : Nat} {Z : Nat → Int} : ∀ m, mWs S' e Z m = mWs S e Z m
  | 0 => rfl
  | m + 1 => by
    unfold mWs mLo
    rw [mWs_s h m, show sA S' 40 = sA S 40 from congrFun h 40]
section Q7
variable {l : Launch} {D : va_G} {ad : Nat → Nat} {tc : Nat → ClassId} {L : Nat} {xs : Nat → Int32} {S : jS} {E : List j_C} {sl x : Nat}
set_option maxRecDepth 20000 in
theorem lp_ws {n nr nc nk j e : Nat} {Z : Nat → Int} (hj : j < 7) (hT : Told S n nr nc nk) (he : e < n) (hZ2 : sD S (5 * j + 51) = fun i => dv (Z i)) (hZ : okL Z) : ∀ m k : Nat, k + m = n → Rn l D ad tc L xs mX8_worstStart 2 44 4 [(3, .int (nI k)), (2, .int (mWs S e Z k)), (0, .ref (5 * j + 50)), (1, .int (nI e))] [] (wd S E, sl) (some (.int (mWs S e Z n))) (wd S E, sl) := by
  obtain ⟨⟨hN, hn⟩, -, -, -, hv, -, -, hK, -, -⟩ := id hT
  intro m
  induction m with
  | zero =>
    intro k hk
    have hk' : n = k := by omega
    subst hk'
    have hN1 := hN
    refine rn_iload_n dX8_worstStart_4 rfl ?_
    refine rn_aload_n dX8_worstStart_5 rfl ?_
    refine rn_getfield dX8_worstStart_6 fo_X8_24 (h_tim (by omega)) rfl ?_
    refine rn_getfield dX8_worstStart_9 fo_X8_40 h_chip rfl ?_
    refine rn_topi hN1 ?_
    refine rn_icmp_ge (tgt := 56) dX8_worstStart_12 rfl (fun _ => ?_) (fun q1 => absurd (by exact Int32.le_refl _) q1)
    refine rn_iload_n dX8_worstStart_56 rfl ?_
    exact rn_ret dX8_worstStart_57 trivial rfl
  | succ m ih =>
    intro k hk
    have hN1 := hN
    have ih := ih (k + 1) (by omega)
    have KJ : Rn l D ad tc L xs mX8_worstStart 2 44 50 [(3, .int (nI k)), (2, .int (mWs S e Z (k + 1))), (0, .ref (5 * j + 50)), (1, .int (nI e))] [] (wd S E, sl) (some (.int (mWs S e Z n))) (wd S E, sl) := by
      refine rn_iinc dX8_worstStart_50 rfl (nI_1 _) (by decide) rfl ?_
      refine rn_goto (tgt := 4) dX8_worstStart_53 rfl ?_
      exact rn_subg rfl ih
    rcases mWs_r (S := S) (e := e) (Z := Z) k with hw | ⟨ws, hws, hw⟩
    · rw [hw]
      refine rn_iload_n dX8_worstStart_4 rfl ?_
      refine rn_aload_n dX8_worstStart_5 rfl ?_
      refine rn_getfield dX8_worstStart_6 fo_X8_24 (h_tim (by omega)) rfl ?_
      refine rn_getfield dX8_worstStart_9 fo_X8_40 h_chip rfl ?_
      refine rn_topi hN1 ?_
      refine rn_icmp_ge (tgt := 56) dX8_worstStart_12 rfl (fun q1 => absurd q1 (by rw [Int32.le_iff_toInt_le, nI_toInt (by omega), nI_toInt (by omega)] at q1; omega)) (fun _ => ?_)
      refine rn_aload_n dX8_worstStart_15 rfl ?_
      refine rn_getfield dX8_worstStart_16 fo_X8_28 (h_tim (by omega)) rfl ?_
      refine rn_iload_n dX8_worstStart_19 rfl ?_
      refine rn_iload_n dX8_worstStart_20 rfl ?_
      refine rn_callV dX8_worstStart_21 cv_X8_117 (c_X6_isChecked (by omega)) rfl h_paths rfl rfl (by decide) (by decide) rfl (Nat.le_of_ble_eq_true rfl) ?_
      refine rn_if_eq (tgt := 50) dX8_worstStart_24 rfl (fun q2 => ?_) (fun q2 => ?_)
      · rw [bI_0] at q2
        have hb0 : bitR (sA S 40) k e = false := q2
        rw [mWs_f hb0, hw] at KJ
        exact rn_subg rfl KJ
      · rw [bI_n] at q2
        have hb0 : bitR (sA S 40) k e = true := q2
        rw [mWs_t hb0 (Or.inl hw)] at KJ
        refine rn_iload_n dX8_worstStart_27 rfl ?_
        refine rn_iconst (v := (-1)) dX8_worstStart_28 rfl ?_
        refine rn_icmp_eq (tgt := 48) dX8_worstStart_29 rfl (fun _ => ?_) (fun q3 => absurd (by rfl) q3)
        refine rn_iload_n dX8_worstStart_48 rfl ?_
        refine rn_istore_n dX8_worstStart_49 (by decide) rfl ?_
        exact rn_subg rfl KJ
    · rw [hw]
      have r1 := mLo_r (S := S) (e := e) hZ k
      have r2 := mLo_r (S := S) (e := e) hZ ws
      refine rn_iload_n dX8_worstStart_4 rfl ?_
      refine rn_aload_n dX8_worstStart_5 rfl ?_
      refine rn_getfield dX8_worstStart_6 fo_X8_24 (h_tim (by omega)) rfl ?_
      refine rn_getfield dX8_worstStart_9 fo_X8_40 h_chip rfl ?_
      refine rn_topi hN1 ?_
      refine rn_icmp_ge (tgt := 56) dX8_worstStart_12 rfl (fun q1 => absurd q1 (by rw [Int32.le_iff_toInt_le, nI_toInt (by omega), nI_toInt (by omega)] at q1; omega)) (fun _ => ?_)
      refine rn_aload_n dX8_worstStart_15 rfl ?_
      refine rn_getfield dX8_worstStart_16 fo_X8_28 (h_tim (by omega)) rfl ?_
      refine rn_iload_n dX8_worstStart_19 rfl ?_
      refine rn_iload_n dX8_worstStart_20 rfl ?_
      refine rn_callV dX8_worstStart_21 cv_X8_117 (c_X6_isChecked (by omega)) rfl h_paths rfl rfl (by decide) (by decide) rfl (Nat.le_of_ble_eq_true rfl) ?_
      refine rn_if_eq (tgt := 50) dX8_worstStart_24 rfl (fun q2 => ?_) (fun q2 => ?_)
      · rw [bI_0] at q2
        have hb0 : bitR (sA S 40) k e = false := q2
        rw [mWs_f hb0, hw] at KJ
        exact rn_subg rfl KJ
      · rw [bI_n] at q2
        have hb0 : bitR (sA S 40) k e = true := q2
        refine rn_iload_n dX8_worstStart_27 rfl ?_
        refine rn_iconst (v := (-1)) dX8_worstStart_28 rfl ?_
        refine rn_icmp_eq (tgt := 48) dX8_worstStart_29 rfl (fun q3 => absurd q3 (by exact nI_ne1 (by omega))) (fun _ => ?_)
        refine rn_aload_n dX8_worstStart_32 rfl ?_
        refine rn_iload_n dX8_worstStart_33 rfl ?_
        refine rn_iload_n dX8_worstStart_34 rfl ?_
        refine rn_callV dX8_worstStart_35 cv_X8_132 (c_X8_leftOf (p := Z (k * 16 + e)) hj (by omega) (by omega) (fun _ => congrFun hZ2 _)) rfl (h_tim (by omega)) rfl rfl (by decide) (by decide) rfl (Nat.le_of_ble_eq_true rfl) ?_
        refine rn_topd (y := dv (mLo S e Z k)) rfl ?_
        refine rn_aload_n dX8_worstStart_38 rfl ?_
        refine rn_iload_n dX8_worstStart_39 rfl ?_
        refine rn_iload_n dX8_worstStart_40 rfl ?_
        refine rn_callV dX8_worstStart_41 cv_X8_132 (c_X8_leftOf (p := Z (ws * 16 + e)) hj (by omega) (by omega) (fun _ => congrFun hZ2 _)) rfl (h_tim (by omega)) rfl rfl (by decide) (by decide) rfl (Nat.le_of_ble_eq_true rfl) ?_
        refine rn_topd (y := dv (mLo S e Z ws)) rfl ?_
        refine rn_dcmpv dX8_worstStart_44 (dB_of (by omega) (by omega)) (dB_of (by omega) (by omega)) ?_
        refine rn_if_ge (tgt := 50) dX8_worstStart_45 rfl (fun q4 => ?_) (fun q4 => ?_)
        · rw [mWs_g (fun z => z.elim (fun y => nI_ne1 (show ws < 2 ^ 31 by omega) (hw.symm.trans y)) (fun y => absurd (cmpI_lt.mpr (by rw [hw, nI_clamp (by omega)] at y; exact y)) (Int32.not_lt.mpr q4))), hw] at KJ
          exact rn_subg rfl KJ
        · rw [mWs_t hb0 (Or.inr (by rw [hw, nI_clamp (by omega)]; exact cmpI_lt.mp (Int32.not_le.mp q4)))] at KJ
          refine rn_iload_n dX8_worstStart_48 rfl ?_
          refine rn_istore_n dX8_worstStart_49 (by decide) rfl ?_
          exact rn_subg rfl KJ
set_option maxRecDepth 20000 in
theorem c_X8_worstStart {n nr nc nk j e : Nat} {Z : Nat → Int} (hj : j < 7) (hT : Told S n nr nc nk) (he : e < n) (hZ2 : sD S (5 * j + 51) = fun i => dv (Z i)) (hZ : okL Z) : Cn l D ad tc L xs mX8_worstStart 2 44 [.ref (5 * j + 50), .int (nI e)] (wd S E, sl) (some (.int (mWs S e Z n))) (wd S E, sl) := by
  refine cn_of (lv0 := [(0, .ref (5 * j + 50)), (1, .int (nI e))]) (by decide +kernel) ⟨_, rfl, rfl⟩ (fun _ => by simp [lg_sl, j_v, Value.category]) (fun _ => rfl) ?_
  refine rn_iconst (v := (-1)) dX8_worstStart_0 rfl ?_
  refine rn_istore_n dX8_worstStart_1 (by decide) rfl ?_
  refine rn_iconst (v := nI 0) dX8_worstStart_2 (by decide) ?_
  refine rn_istore_n dX8_worstStart_3 (by decide) rfl ?_
  exact rn_subg (lv' := [(3, .int (nI 0)), (2, .int (mWs S e Z 0)), (0, .ref (5 * j + 50)), (1, .int (nI e))]) rfl (lp_ws hj hT he hZ2 hZ n 0 (by omega))
def mAr (S : jS) (A : Nat → Int) (s i f : Nat) : Int := if bitR (sA S 39) s i = true then A (s * 32 + i * 2 + f) else -4096
theorem mAr_r {S : jS} {A : Nat → Int} (hA : okA A) (s i f : Nat) : -4096 ≤ mAr S A s i f ∧ mAr S A s i f ≤ 18000000 := by
  have := okA_x hA (s * 32 + i * 2 + f)
  unfold mAr
  split <;> omega
def mWw (S : jS) (e n : Nat) (Z : Nat → Int) : Int32 := if mWs S e Z n = -1 ∨ fe1 S e = -1 then -1 else fe1 S e
set_option maxRecDepth 20000 in
theorem c_X8_worstWay {n nr nc nk j e : Nat} {A Z : Nat → Int} (hj : j < 7) (hT : Told S n nr nc nk) (he : e < n) (hZ2 : sD S (5 * j + 51) = fun i => dv (Z i)) (hZ : okL Z) (hA2 : sD S (5 * j + 50) = fun i => dv (A i)) (hA : okA A) (hfe : fe1 S e = -1 ∨ ∃ a, a < n ∧ fe1 S e = nI a) : Cn l D ad tc L xs mX8_worstWay 3 67 [.ref (5 * j + 50), .int (nI e), .int 0] (wd S E, sl) (some (.int (mWw S e n Z))) (wd S E, sl) := by
  refine cn_of (lv0 := [(0, .ref (5 * j + 50)), (1, .int (nI e)), (2, .int 0)]) (by decide +kernel) ⟨_, rfl, rfl⟩ (fun _ => by simp [lg_sl, j_v, Value.category]) (fun _ => rfl) ?_
  have hn := hT.1.2
  rcases mWs_r (S := S) (e := e) (Z := Z) n with hw | ⟨ws, hws, hw⟩
  · rw [show mWw S e n Z = -1 by unfold mWw; rw [if_pos (Or.inl hw)]]
    have hf : fe1 S e = fe1 S e := rfl
    refine rn_aload_n dX8_worstWay_0 rfl ?_
    refine rn_iload_n dX8_worstWay_1 rfl ?_
    refine rn_callV dX8_worstWay_2 cv_X8_181 (c_X8_worstStart hj hT he hZ2 hZ) rfl (h_tim (by omega)) rfl rfl (by decide) (by decide) rfl (Nat.le_of_ble_eq_true rfl) ?_
    rw [hw]
    refine rn_istore_n dX8_worstWay_5 (by decide) rfl ?_
    refine rn_aload_n dX8_worstWay_6 rfl ?_
    refine rn_getfield dX8_worstWay_7 fo_X8_24 (h_tim (by omega)) rfl ?_
    refine rn_getfield dX8_worstWay_10 fo_X8_46 h_chip rfl ?_
    refine rn_iload_n dX8_worstWay_13 rfl ?_
    refine rn_aaload dX8_worstWay_14 h_nodes rfl (vp_in_nI (by omega) (by decide)) (refs_at rfl (by omega) (by decide)) ?_
    refine rn_getfield dX8_worstWay_15 fo_X8_104 (h_node (by omega)) rfl ?_
    refine rn_topi hf ?_
    refine rn_istore dX8_worstWay_18 (by decide) rfl ?_
    refine rn_iload_n dX8_worstWay_20 rfl ?_
    refine rn_iconst (v := (-1)) dX8_worstWay_21 rfl ?_
    refine rn_icmp_eq (tgt := 31) dX8_worstWay_22 rfl (fun _ => ?_) (fun q1 => absurd (by rfl) q1)
    refine rn_iconst (v := (-1)) dX8_worstWay_31 rfl ?_
    exact rn_ret dX8_worstWay_32 trivial rfl
  · rcases hfe with hf | ⟨a, ha, hf⟩
    · rw [show mWw S e n Z = -1 by unfold mWw; rw [if_pos (Or.inr hf)]]
      refine rn_aload_n dX8_worstWay_0 rfl ?_
      refine rn_iload_n dX8_worstWay_1 rfl ?_
      refine rn_callV dX8_worstWay_2 cv_X8_181 (c_X8_worstStart hj hT he hZ2 hZ) rfl (h_tim (by omega)) rfl rfl (by decide) (by decide) rfl (Nat.le_of_ble_eq_true rfl) ?_
      rw [hw]
      refine rn_istore_n dX8_worstWay_5 (by decide) rfl ?_
      refine rn_aload_n dX8_worstWay_6 rfl ?_
      refine rn_getfield dX8_worstWay_7 fo_X8_24 (h_tim (by omega)) rfl ?_
      refine rn_getfield dX8_worstWay_10 fo_X8_46 h_chip rfl ?_
      refine rn_iload_n dX8_worstWay_13 rfl ?_
      refine rn_aaload dX8_worstWay_14 h_nodes rfl (vp_in_nI (by omega) (by decide)) (refs_at rfl (by omega) (by decide)) ?_
      refine rn_getfield dX8_worstWay_15 fo_X8_104 (h_node (by omega)) rfl ?_
      refine rn_topi hf ?_
      refine rn_istore dX8_worstWay_18 (by decide) rfl ?_
      refine rn_iload_n dX8_worstWay_20 rfl ?_
      refine rn_iconst (v := (-1)) dX8_worstWay_21 rfl ?_
      refine rn_icmp_eq (tgt := 31) dX8_worstWay_22 rfl (fun q1 => absurd q1 (by exact nI_ne1 (by omega))) (fun _ => ?_)
      refine rn_iload dX8_worstWay_25 rfl ?_
      refine rn_iconst (v := (-1)) dX8_worstWay_27 rfl ?_
      refine rn_icmp_ne (tgt := 33) dX8_worstWay_28 rfl (fun q2 => absurd q2 (by decide)) (fun _ => ?_)
      refine rn_iconst (v := (-1)) dX8_worstWay_31 rfl ?_
      exact rn_ret dX8_worstWay_32 trivial rfl
    · rw [show mWw S e n Z = nI a by
        unfold mWw
        rw [if_neg (fun z => z.elim (fun y => nI_ne1 (show ws < 2 ^ 31 by omega) (hw.symm.trans y)) (fun y => nI_ne1 (show a < 2 ^ 31 by omega) (hf.symm.trans y)))]
        exact hf]
      have r1 := mAr_r (S := S) hA ws a 1
      have r0 := mAr_r (S := S) hA ws a 0
      refine rn_aload_n dX8_worstWay_0 rfl ?_
      refine rn_iload_n dX8_worstWay_1 rfl ?_
      refine rn_callV dX8_worstWay_2 cv_X8_181 (c_X8_worstStart hj hT he hZ2 hZ) rfl (h_tim (by omega)) rfl rfl (by decide) (by decide) rfl (Nat.le_of_ble_eq_true rfl) ?_
      rw [hw]
      refine rn_istore_n dX8_worstWay_5 (by decide) rfl ?_
      refine rn_aload_n dX8_worstWay_6 rfl ?_
      refine rn_getfield dX8_worstWay_7 fo_X8_24 (h_tim (by omega)) rfl ?_
      refine rn_getfield dX8_worstWay_10 fo_X8_46 h_chip rfl ?_
      refine rn_iload_n dX8_worstWay_13 rfl ?_
      refine rn_aaload dX8_worstWay_14 h_nodes rfl (vp_in_nI (by omega) (by decide)) (refs_at rfl (by omega) (by decide)) ?_
      refine rn_getfield dX8_worstWay_15 fo_X8_104 (h_node (by omega)) rfl ?_
      refine rn_topi hf ?_
      refine rn_istore dX8_worstWay_18 (by decide) rfl ?_
      refine rn_iload_n dX8_worstWay_20 rfl ?_
      refine rn_iconst (v := (-1)) dX8_worstWay_21 rfl ?_
      refine rn_icmp_eq (tgt := 31) dX8_worstWay_22 rfl (fun q1 => absurd q1 (by exact nI_ne1 (by omega))) (fun _ => ?_)
      refine rn_iload dX8_worstWay_25 rfl ?_
      refine rn_iconst (v := (-1)) dX8_worstWay_27 rfl ?_
      refine rn_icmp_ne (tgt := 33) dX8_worstWay_28 rfl (fun _ => ?_) (fun q2 => absurd q2 (by exact nI_ne1 (by omega)))
      refine rn_aload_n dX8_worstWay_33 rfl ?_
      refine rn_iload_n dX8_worstWay_34 rfl ?_
      refine rn_iload dX8_worstWay_35 rfl ?_
      refine rn_iconst (v := nI 1) dX8_worstWay_37 (by decide) ?_
      refine rn_callV dX8_worstWay_38 cv_X8_185 (c_X8_arrivalOf (p := A (ws * 32 + a * 2 + 1)) hj (by omega) (by omega) (by decide) (fun _ => congrFun hA2 _)) rfl (h_tim (by omega)) rfl rfl (by decide) (by decide) rfl (Nat.le_of_ble_eq_true rfl) ?_
      refine rn_topd (y := dv (mAr S A ws a 1)) rfl ?_
      refine rn_aload_n dX8_worstWay_41 rfl ?_
      refine rn_iload_n dX8_worstWay_42 rfl ?_
      refine rn_iload dX8_worstWay_43 rfl ?_
      refine rn_iconst (v := nI 0) dX8_worstWay_45 (by decide) ?_
      refine rn_callV dX8_worstWay_46 cv_X8_185 (c_X8_arrivalOf (p := A (ws * 32 + a * 2 + 0)) hj (by omega) (by omega) (by decide) (fun _ => congrFun hA2 _)) rfl (h_tim (by omega)) rfl rfl (by decide) (by decide) rfl (Nat.le_of_ble_eq_true rfl) ?_
      refine rn_topd (y := dv (mAr S A ws a 0)) rfl ?_
      refine rn_dcmpv dX8_worstWay_49 (dB_of (by omega) (by omega)) (dB_of (by omega) (by omega)) ?_
      refine rn_if_le (tgt := 57) dX8_worstWay_50 rfl (fun q3 => ?_) (fun q3 => ?_)
      · refine rn_iconst (v := 0) dX8_worstWay_57 rfl ?_
        refine rn_istore dX8_worstWay_58 (by decide) rfl ?_
        refine rn_iload dX8_worstWay_60 rfl ?_
        refine rn_iconst (v := nI 2) dX8_worstWay_62 (by decide) ?_
        refine rn_imul dX8_worstWay_63 ?_
        refine rn_topi (nI_mul _ _) ?_
        refine rn_iload dX8_worstWay_64 rfl ?_
        refine rn_if_eq (tgt := 73) dX8_worstWay_66 rfl (fun _ => ?_) (fun q => absurd (by decide) q)
        refine rn_iconst (v := nI 0) dX8_worstWay_73 (by decide) ?_
        refine rn_iadd dX8_worstWay_74 ?_
        refine rn_topi (nI_add _ _) ?_
        refine rn_istore dX8_worstWay_75 (by decide) rfl ?_
        refine rn_iconst (v := 0) dX8_worstWay_77 rfl ?_
        refine rn_istore dX8_worstWay_78 (by decide) rfl ?_
        refine rn_iload dX8_worstWay_80 rfl ?_
        refine rn_iload_n dX8_worstWay_82 rfl ?_
        refine rn_icmp_ge (tgt := 119) dX8_worstWay_83 rfl (fun _ => ?_) (fun q => absurd (by decide) q)
        refine rn_iload dX8_worstWay_119 rfl ?_
        refine rn_iconst (v := (-1)) dX8_worstWay_121 rfl ?_
        refine rn_icmp_ne (tgt := 129) dX8_worstWay_122 rfl (fun _ => ?_) (fun q4 => absurd q4 (by exact nI_ne1 (by omega)))
        refine rn_iload dX8_worstWay_129 rfl ?_
        refine rn_iconst (v := nI 2) dX8_worstWay_131 (by decide) ?_
        refine rn_idiv dX8_worstWay_132 (by decide) ?_
        rw [pk_div (by omega) (by decide) (by decide), show (a * 2 + 0) / 2 = a by omega]
        exact rn_ret dX8_worstWay_133 trivial rfl
      · refine rn_iconst (v := 1) dX8_worstWay_53 rfl ?_
        refine rn_goto (tgt := 58) dX8_worstWay_54 rfl ?_
        refine rn_istore dX8_worstWay_58 (by decide) rfl ?_
        refine rn_iload dX8_worstWay_60 rfl ?_
        refine rn_iconst (v := nI 2) dX8_worstWay_62 (by decide) ?_
        refine rn_imul dX8_worstWay_63 ?_
        refine rn_topi (nI_mul _ _) ?_
        refine rn_iload dX8_worstWay_64 rfl ?_
        refine rn_if_eq (tgt := 73) dX8_worstWay_66 rfl (fun q => absurd q (by decide)) (fun _ => ?_)
        refine rn_iconst (v := nI 1) dX8_worstWay_69 (by decide) ?_
        refine rn_goto (tgt := 74) dX8_worstWay_70 rfl ?_
        refine rn_iadd dX8_worstWay_74 ?_
        refine rn_topi (nI_add _ _) ?_
        refine rn_istore dX8_worstWay_75 (by decide) rfl ?_
        refine rn_iconst (v := 0) dX8_worstWay_77 rfl ?_
        refine rn_istore dX8_worstWay_78 (by decide) rfl ?_
        refine rn_iload dX8_worstWay_80 rfl ?_
        refine rn_iload_n dX8_worstWay_82 rfl ?_
        refine rn_icmp_ge (tgt := 119) dX8_worstWay_83 rfl (fun _ => ?_) (fun q => absurd (by decide) q)
        refine rn_iload dX8_worstWay_119 rfl ?_
        refine rn_iconst (v := (-1)) dX8_worstWay_121 rfl ?_
        refine rn_icmp_ne (tgt := 129) dX8_worstWay_122 rfl (fun _ => ?_) (fun q5 => absurd q5 (by exact nI_ne1 (by omega)))
        refine rn_iload dX8_worstWay_129 rfl ?_
        refine rn_iconst (v := nI 2) dX8_worstWay_131 (by decide) ?_
        refine rn_idiv dX8_worstWay_132 (by decide) ?_
        rw [pk_div (by omega) (by decide) (by decide), show (a * 2 + 1) / 2 = a by omega]
        exact rn_ret dX8_worstWay_133 trivial rfl
end Q7
