/-! Math.min: its entry in the table of natives is run in its bytecode's place (the library's Min64.pays) -/
theorem dv_nan (n : Int) : FP.dIsNaN (dv n) = false := (FP.Core.notNaN_iff _).mpr (dv_nn' n)
theorem dv_pick {a b : Int} (ha : dB a) (hb : dB b) : Native.java_lang_Math.nans.pick64 false (dv a) (dv b) = dv (min a b) := by
  unfold Native.java_lang_Math.nans.pick64
  rw [dv_cmp ha hb]
  rcases Int.lt_trichotomy a b with h | h | h
  · rw [show compare a b = .lt from Int.compare_eq_lt.mpr h, Int.min_eq_left (by omega)]
    rfl
  · subst h
    rw [Int.min_self]
    rw [show compare a a = .eq from Int.compare_eq_eq.mpr rfl]
    exact ite_self _
  · rw [show compare a b = .gt from Int.compare_eq_gt.mpr h, Int.min_eq_right (by omega)]
    rfl
section LMin
variable {l : Launch} {D : va_G} {ad : Nat → Nat} {tc : Nat → ClassId} {L : Nat} {xs : Nat → Int32} {M : j_M} {d lo pc : Nat} {lv : j_L} {st : List Value} {h h' : j_H} {r : Option Value}
theorem rn_min {idx : Nat} {a b : Int} (hd : decode M.2.1 pc = .ok (.invokestatic idx, 3)) (hw : j_cs M.1.cls idx mJ9_min_eb370 2) (ha : dB a) (hb : dB b) (hd1 : 1 ≤ d) (hlo : 23 ≤ lo) (hsum : (st.map fun v => v.category).sum ≤ 8)
    (k : Rn l D ad tc L xs M d lo (pc + 3) lv (.double (dv (min a b)) :: st) h r h') : Rn l D ad tc L xs M d lo pc lv (.double (dv b) :: .double (dv a) :: st) h r h' := by
  refine rn_pure (fun p e R s m args below meth c H locs cells slots ls Q hF q1 q2 hl hP hS k => ?_) k
  intro T hT X
  obtain ⟨w1, w2, w3, w4, w5, w6, w7⟩ := hw
  have hts := hF.2.2.2.2.1
  have hK := Jvm.Free.NT.Min64.pays (l := l) (R := R) (p := p) (e := e) (below := below) (s := s) (sargs := args) (len := 3) (W := 8) (hts _ w4) (hts _ w2) (by omega) (by show 8 + (4 + 11) ≤ R.locals; omega)
  obtain ⟨v, vm₁, ⟨U', l2, c2, s2⟩, hW₁, X', ⟨hB, hv⟩, st⟩ := callS X hF.1 hF.2.2.2.1 (hts _ w1) (hts _ w2) (hts _ w3) (hts _ w4) ⟨w5, w6⟩ hK (g := F0 m pc ls (((Value.double (dv b)) :: (Value.double (dv a)) :: st).map (j_v ad))) rfl (hl.1.trans hF.2.2.1.symm) (argsL := [.double (dv a), .double (dv b)]) (rest := st.map (j_v ad))
    (fun sig h => by rw [h] at w7; exact (Option.some.inj w7).symm) rfl (by show 2 * 0 + _ ≤ 8; rw [List.map_map, show (Value.category ∘ j_v ad) = Value.category from funext fun v => j_cat v, Nat.mul_zero, Nat.zero_add]; exact hsum) (by rw [hF.2.1]; exact hd) (fun vm₁ _ => ⟨(dv a, dv b), rfl, dv_nan a, dv_nan b⟩)
  cases hB
  obtain rfl := hv (dv a, dv b) ⟨rfl, dv_nan a, dv_nan b⟩
  rw [dv_pick ha hb] at st
  obtain ⟨t, a1, b1⟩ := k (T.setVm vm₁) hT X'
  exact ⟨t, st t a1, b1⟩
end LMin
theorem nI_pd (a : Nat) : nI (a + 1) + Int32.ofInt (-1) = nI a := by
  rw [← nI_1, Int32.add_assoc, show (1 : Int32) + Int32.ofInt (-1) = 0 by decide, Int32.add_zero]
/-! the law's small methods, and Math.min -/
theorem and31 (v : Int32) : ∃ x : Nat, x < 2 ^ 31 ∧ v &&& 2147483647 = nI x := by
  refine ⟨(v.toBitVec &&& 2147483647#32).toNat, ?_, ?_⟩
  · rw [BitVec.toNat_and]
    exact Nat.lt_of_le_of_lt Nat.and_le_right (by decide)
  · rw [← Int32.toBitVec_inj]
    show v.toBitVec &&& (2147483647 : Int32).toBitVec = BitVec.ofNat 32 (v.toBitVec &&& 2147483647#32).toNat
    rw [BitVec.ofNat_toNat, BitVec.setWidth_eq]
    rfl
def bel (v : Int32) (n : Nat) : Nat := (v &&& 2147483647).toNatClampNeg % n
theorem bel_lt {v : Int32} {n : Nat} (h : 0 < n) : bel v n < n := Nat.mod_lt _ h
theorem bel_eq (v : Int32) {n : Nat} (h0 : 0 < n) (h : n < 2 ^ 31) : (v &&& 2147483647) - (v &&& 2147483647) / nI n * nI n = nI (bel v n) := by
  obtain ⟨x, hx, e⟩ := and31 v
  unfold bel
  rw [e, nI_clamp hx, pk_rem hx h0 h]
def celV (L : Nat) (xs : Nat → Int32) (k : Nat) : Int32 := if k < L then xs k else 790386105 * (nI k + 3)
section LV
variable {l : Launch} {D : va_G} {ad : Nat → Nat} {tc : Nat → ClassId} {L : Nat} {xs : Nat → Int32} {h : j_H} {S : jS} {E : List j_C} {sl : Nat}
theorem c_L_below {v : Int32} {n : Nat} (h0 : 0 < n) (hn : n < 2 ^ 31) : Cn l D ad tc L xs mL_below 0 0 [.int v, .int (nI n)] h (some (.int (nI (bel v n)))) h := by
  refine cn_of (lv0 := [(0, .int v), (1, .int (nI n))]) (by decide +kernel) ⟨_, rfl, rfl⟩ (fun _ => by simp [lg_sl, j_v, Value.category]) (fun _ => rfl) ?_
  refine rn_iload_n dL_below_0 rfl ?_
  refine rn_ldc dL_below_1 wd_538 ?_
  refine rn_iand dL_below_3 ?_
  refine rn_iload_n dL_below_4 rfl ?_
  refine rn_irem dL_below_5 (nI_ne0 h0 hn) ?_
  refine rn_topi (bel_eq v h0 hn) ?_
  exact rn_ret dL_below_6 trivial rfl
theorem c_L_cell {k : Nat} (hL : L < 1000) (hk : k < 1000) : Cn l D ad tc L xs mL_cell 0 0 [.ref 0, .int (nI k)] h (some (.int (celV L xs k))) h := by
  refine cn_of (lv0 := [(0, .ref 0), (1, .int (nI k))]) (by decide +kernel) ⟨_, rfl, rfl⟩ (fun _ => by simp [lg_sl, j_v, Value.category]) (fun _ => rfl) ?_
  refine rn_iload_n dL_cell_0 rfl ?_
  refine rn_aload_n dL_cell_1 rfl ?_
  refine rn_slen dL_cell_2 ?_
  refine rn_topi (y := nI L) rfl ?_
  by_cases hkl : k < L
  · refine rn_icmp_ge (tgt := 12) dL_cell_3 rfl (fun q => absurd q (nI_ge hkl (by omega))) (fun _ => ?_)
    refine rn_aload_n dL_cell_6 rfl ?_
    refine rn_iload_n dL_cell_7 rfl ?_
    refine rn_sld dL_cell_8 (vp_in_nI hkl (by omega)) ?_
    rw [nI_clamp (by omega)]
    refine rn_goto (tgt := 18) dL_cell_9 rfl ?_
    refine rn_topi (y := celV L xs k) (if_pos hkl).symm ?_
    exact rn_ret dL_cell_18 trivial rfl
  · refine rn_icmp_ge (tgt := 12) dL_cell_3 rfl (fun _ => ?_) (fun q => absurd (nI_le (by omega) (by omega)) q)
    refine rn_ldc dL_cell_12 wd_539 ?_
    refine rn_iload_n dL_cell_14 rfl ?_
    refine rn_iconst (v := 3) dL_cell_15 rfl ?_
    refine rn_iadd dL_cell_16 ?_
    refine rn_imul dL_cell_17 ?_
    refine rn_topi (y := celV L xs k) (if_neg hkl).symm ?_
    exact rn_ret dL_cell_18 trivial rfl
theorem c_L_isStart {v : Int32} : Cn l D ad tc L xs mL_isStart 0 0 [.int v] h (some (.int (bI (decide (v = 0 ∨ v = 6 ∨ v = 7))))) h := by
  refine cn_of (lv0 := [(0, .int v)]) (by decide +kernel) ⟨_, rfl, bI_nar _⟩ (fun _ => by simp [lg_sl, j_v, Value.category]) (fun _ => rfl) ?_
  have T : v = 0 ∨ v = 6 ∨ v = 7 → Rn l D ad tc L xs mL_isStart 0 0 16 [(0, .int v)] [] h (some (.int (bI (decide (v = 0 ∨ v = 6 ∨ v = 7))))) h := by
    intro q
    rw [decide_eq_true q]
    refine rn_iconst (v := 1) dL_isStart_16 rfl ?_
    refine rn_goto (tgt := 21) dL_isStart_17 rfl ?_
    exact rn_ret dL_isStart_21 trivial rfl
  refine rn_iload_n dL_isStart_0 rfl ?_
  refine rn_if_eq (tgt := 16) dL_isStart_1 rfl (fun q1 => T (Or.inl q1)) (fun q1 => ?_)
  refine rn_iload_n dL_isStart_4 rfl ?_
  refine rn_bipush (v := 6) dL_isStart_5 rfl ?_
  refine rn_icmp_eq (tgt := 16) dL_isStart_7 rfl (fun q2 => T (Or.inr (Or.inl q2))) (fun q2 => ?_)
  refine rn_iload_n dL_isStart_10 rfl ?_
  refine rn_bipush (v := 7) dL_isStart_11 rfl ?_
  refine rn_icmp_ne (tgt := 20) dL_isStart_13 rfl (fun q3 => ?_) (fun q3 => T (Or.inr (Or.inr q3)))
  refine rn_iconst (v := 0) dL_isStart_20 rfl ?_
  rw [decide_eq_false (show ¬ (v = 0 ∨ v = 6 ∨ v = 7) from fun z => by rcases z with z | z | z; exact q1 z; exact q2 z; exact q3 z)]
  exact rn_ret dL_isStart_21 trivial rfl
/-! what lies behind a SlackHall: the rows of the chip -/
theorem wd_at2 {i : Nat} {c : j_C} (h : E[i]? = some c) : (wd S E)[i + 84]? = some c := by
  unfold wd
  rw [List.getElem?_append_right (by simp)]
  simpa using h
theorem wd_set2 {i : Nat} {c : j_C} : (wd S E).set (i + 84) c = wd S (E.set i c) := by
  unfold wd
  rw [List.set_append_right _ _ (by simp)]
  simp
theorem wd_app {T : List j_C} : wd S E ++ T = wd S (E ++ T) := by
  unfold wd
  rw [List.append_assoc]
def mkF (k : Nat) : Nat → Option Nat := fun i => if i < k then some (2 * i + 87) else none
def mdC (k : Nat) : j_C := .inl (8, 11, .inr (.inr (.inr (.inr (mkF k)))))
def rwC (f : Nat → Int32) : j_C := .inl (0, 7, .inl f)
/-- k rows stand, and say of the nodes what is told of them -/
def RWs (S : jS) (E : List j_C) (k : Nat) : Prop := E[0]? = some (mdC k) ∧ ∀ i, i < k → ∃ f : Nat → Int32, E[2 * i + 2]? = some (rwC f) ∧ f 0 = kd S i ∧ (kd S i = 7 → f 3 = nI (sV S i) ∧ sV S i < 3)
theorem RWs_app {T : List j_C} {k : Nat} (h : RWs S E k) : RWs S (E ++ T) k := by
  have ap : ∀ {i : Nat} {c : j_C}, E[i]? = some c → (E ++ T)[i]? = some c := fun {i c} q => by
    rw [List.getElem?_append_left (List.getElem?_eq_some_iff.mp q).1]
    exact q
  exact ⟨ap h.1, fun i hi => by obtain ⟨f, h1, h2⟩ := h.2 i hi; exact ⟨f, ap h1, h2⟩⟩
theorem lp_inner {S : jS} {E : List j_C} {k sl : Nat} (hR : RWs S E k) (hk : k ≤ 11) (h0 : kd S 0 ≠ 8) : ∀ a, a = 0 ∨ a < k → ∃ b, (b = 0 ∨ b < k) ∧ kd S b ≠ 8 ∧ Rn l D ad tc L xs mL_inner 1 21 14 [(3, .int (nI a)), (0, .ref 85)] [] (wd S E, sl) (some (.int (nI b))) (wd S E, sl)
  | 0, _ => by
    refine ⟨0, Or.inl rfl, h0, ?_⟩
    refine rn_iload_n dL_inner_14 rfl ?_
    refine rn_if_le (tgt := 40) dL_inner_15 rfl (fun _ => ?_) (fun q => absurd (by decide) q)
    refine rn_iload_n dL_inner_40 rfl ?_
    exact rn_ret dL_inner_41 trivial rfl
  | a + 1, ha => by
    have ha : a + 1 < k := by omega
    obtain ⟨f, e1, e2, -⟩ := hR.2 (a + 1) ha
    have m : mkF k (nI (a + 1)).toNatClampNeg = some (2 * (a + 1) + 87) := by
      rw [nI_clamp (by omega)]
      exact if_pos ha
    by_cases h8 : kd S (a + 1) = 8
    · obtain ⟨b, hb, h3, K⟩ := lp_inner hR hk h0 a (by omega)
      refine ⟨b, hb, h3, ?_⟩
      refine rn_iload_n dL_inner_14 rfl ?_
      refine rn_if_le (tgt := 40) dL_inner_15 rfl (fun q => absurd q (nI_nle (by omega) (by omega))) (fun _ => ?_)
      refine rn_aload_n dL_inner_18 rfl ?_
      refine rn_iload_n dL_inner_19 rfl ?_
      refine rn_aaloadI (a := 0 + 84) dL_inner_20 (wd_at2 hR.1) (vp_in_nI (by omega) (by decide)) m ?_
      refine rn_ifnull dL_inner_21 ?_
      refine rn_aload_n dL_inner_24 rfl ?_
      refine rn_iload_n dL_inner_25 rfl ?_
      refine rn_aaloadI (a := 0 + 84) dL_inner_26 (wd_at2 hR.1) (vp_in_nI (by omega) (by decide)) m ?_
      refine rn_iconst (v := nI 0) dL_inner_27 (by decide) ?_
      refine rn_iaload (a := 2 * (a + 1) + 2 + 84) dL_inner_28 (wd_at2 e1) rfl (vp_in_nI (by decide) (by decide)) ?_
      rw [nI_clamp (by decide), e2, h8]
      refine rn_bipush (v := 8) dL_inner_29 rfl ?_
      refine rn_icmp_ne (tgt := 40) dL_inner_31 rfl (fun q => absurd rfl q) (fun _ => ?_)
      refine rn_iinc (v := nI a) dL_inner_34 rfl (nI_pd a) (by decide) rfl ?_
      refine rn_goto (tgt := 14) dL_inner_37 rfl ?_
      exact rn_subg rfl K
    · refine ⟨a + 1, Or.inr ha, h8, ?_⟩
      refine rn_iload_n dL_inner_14 rfl ?_
      refine rn_if_le (tgt := 40) dL_inner_15 rfl (fun q => absurd q (nI_nle (by omega) (by omega))) (fun _ => ?_)
      refine rn_aload_n dL_inner_18 rfl ?_
      refine rn_iload_n dL_inner_19 rfl ?_
      refine rn_aaloadI (a := 0 + 84) dL_inner_20 (wd_at2 hR.1) (vp_in_nI (by omega) (by decide)) m ?_
      refine rn_ifnull dL_inner_21 ?_
      refine rn_aload_n dL_inner_24 rfl ?_
      refine rn_iload_n dL_inner_25 rfl ?_
      refine rn_aaloadI (a := 0 + 84) dL_inner_26 (wd_at2 hR.1) (vp_in_nI (by omega) (by decide)) m ?_
      refine rn_iconst (v := nI 0) dL_inner_27 (by decide) ?_
      refine rn_iaload (a := 2 * (a + 1) + 2 + 84) dL_inner_28 (wd_at2 e1) rfl (vp_in_nI (by decide) (by decide)) ?_
      rw [nI_clamp (by decide), e2]
      refine rn_bipush (v := 8) dL_inner_29 rfl ?_
      refine rn_icmp_ne (tgt := 40) dL_inner_31 rfl (fun _ => ?_) (fun q => absurd q h8)
      refine rn_iload_n dL_inner_40 rfl ?_
      exact rn_ret dL_inner_41 trivial rfl
theorem c_L_inner {S : jS} {E : List j_C} {k sl : Nat} {x : Int32} (hR : RWs S E k) (hk : k ≤ 11) (h0 : kd S 0 ≠ 8) : ∃ b, (b = 0 ∨ b < k) ∧ kd S b ≠ 8 ∧ Cn l D ad tc L xs mL_inner 1 21 [.ref 85, .int (nI k), .int x] (wd S E, sl) (some (.int (nI b))) (wd S E, sl) := by
  by_cases k0 : k = 0
  · subst k0
    obtain ⟨b, h1, h2, K⟩ := lp_inner (l := l) (D := D) (ad := ad) (tc := tc) (L := L) (xs := xs) (sl := sl) hR hk h0 0 (Or.inl rfl)
    refine ⟨b, h1, h2, cn_of (lv0 := [(0, .ref 85), (1, .int (nI 0)), (2, .int x)]) (by decide +kernel) ⟨_, rfl, rfl⟩ (fun _ => by simp [lg_sl, j_v, Value.category]) (fun _ => rfl) ?_⟩
    refine rn_iload_n dL_inner_0 rfl ?_
    refine rn_if_ne (tgt := 8) dL_inner_1 rfl (fun q => absurd (by decide) q) (fun _ => ?_)
    refine rn_iconst (v := nI 0) dL_inner_4 (by decide) ?_
    refine rn_goto (tgt := 13) dL_inner_5 rfl ?_
    refine rn_istore_n dL_inner_13 (by decide) rfl ?_
    exact rn_subg rfl K
  · obtain ⟨b, h1, h2, K⟩ := lp_inner (l := l) (D := D) (ad := ad) (tc := tc) (L := L) (xs := xs) (sl := sl) hR hk h0 (bel x k) (Or.inr (bel_lt (by omega)))
    refine ⟨b, h1, h2, cn_of (lv0 := [(0, .ref 85), (1, .int (nI k)), (2, .int x)]) (by decide +kernel) ⟨_, rfl, rfl⟩ (fun _ => by simp [lg_sl, j_v, Value.category]) (fun _ => rfl) ?_⟩
    refine rn_iload_n dL_inner_0 rfl ?_
    refine rn_if_ne (tgt := 8) dL_inner_1 rfl (fun _ => ?_) (fun q => absurd q (nI_ne0 (by omega) (by omega)))
    refine rn_iload_n dL_inner_8 rfl ?_
    refine rn_iload_n dL_inner_9 rfl ?_
    refine rn_callS dL_inner_10 cs_L_15 (c_L_below (by omega) (by omega)) rfl (by decide) (by decide) rfl (Nat.le_of_ble_eq_true rfl) ?_
    refine rn_istore_n dL_inner_13 (by decide) rfl ?_
    exact rn_subg rfl K
end LV
