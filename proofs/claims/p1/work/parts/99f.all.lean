/-! the law on every script of at most six ints -/
theorem nat_le {x : Int32} {m : Nat} (h0 : 0 ≤ x) (hm : x.toInt ≤ m) : ∃ p : Nat, x = nI p ∧ p ≤ m := by
  have h1 := Int32.le_iff_toInt_le.mp h0
  have e0 : (0 : Int32).toInt = 0 := rfl
  refine ⟨x.toInt.toNat, ?_, by omega⟩
  have h2 := x.toInt_lt
  apply Int32.toInt_inj.mp
  rw [nI_toInt (by omega)]
  omega
theorem and_31 (x : Int32) : ∃ n : Nat, n < 32 ∧ x &&& 31 = nI n := by
  have h : (x &&& 31).toBitVec.toNat ≤ 31 := by
    rw [Int32.toBitVec_and, BitVec.toNat_and]
    exact Nat.and_le_right
  refine ⟨(x &&& 31).toBitVec.toNat, by omega, ?_⟩
  apply Int32.toBitVec_inj.mp
  rw [show (nI (x &&& 31).toBitVec.toNat).toBitVec = BitVec.ofNat 32 (x &&& 31).toBitVec.toNat from rfl, BitVec.ofNat_toNat, BitVec.setWidth_eq]
section LG
variable {l : Launch} {D : va_G} {ad : Nat → Nat} {tc : Nat → ClassId} {L : Nat} {xs : Nat → Int32}
theorem law_to {n : Nat} {h' : j_H} (hn : xs 0 &&& 31 = nI n) (K : Rn l D ad tc 6 xs mL_law 200 6000 45 [(5, .int 0), (4, .ref 93), (3, .ref 92), (2, .ref 85), (1, .ref 1), (0, .ref 0)] [.int (nI n)] (wd s0 (mdl (j_a0 D) 0 0 0 ++ [ol 0, od 0]), 6544) (some (.int 1)) h') : Rn l D ad tc 6 xs mL_law 200 6000 28 [(5, .int 0), (4, .ref 93), (3, .ref 92), (2, .ref 85), (1, .ref 1), (0, .ref 0)] [] (wd s0 (mdl (j_a0 D) 0 0 0 ++ [ol 0, od 0]), 6544) (some (.int 1)) h' := by
  refine rn_iload dL_law_28 rfl ?_
  refine rn_aload_n dL_law_30 rfl ?_
  refine rn_slen dL_law_31 ?_
  refine rn_bipush (v := 6) dL_law_32 rfl ?_
  refine rn_isub dL_law_34 ?_
  refine rn_topi (y := 0) (by decide) ?_
  refine rn_icmp_gt (tgt := 2234) dL_law_35 rfl (fun q => absurd q (by decide)) (fun _ => ?_)
  refine rn_aload_n dL_law_38 rfl ?_
  refine rn_iload dL_law_39 rfl ?_
  refine rn_sld dL_law_41 (by unfold vp_in; decide) ?_
  refine rn_topi (y := xs 0) rfl ?_
  refine rn_bipush (v := 31) dL_law_42 rfl ?_
  refine rn_iand dL_law_44 ?_
  refine rn_topi hn ?_
  exact K
theorem lk_0 (hl : l.stackTraces = false) : ∃ h' : j_H, (h'.1.length ≤ 400 ∧ h'.2 ≤ 20000) ∧ Rn l D ad tc 6 xs mL_law 200 6000 172 [(5, .int 0), (4, .ref 93), (3, .ref 92), (2, .ref 85), (1, .ref 1), (0, .ref 0)] [] (wd s0 (mdl (j_a0 D) 0 0 0 ++ [ol 0, od 0]), 6544) (some (.int 1)) h' := by
  by_cases h : (4 ≤ xs 1 ∧ xs 1 ≤ 40) ∧ (0 ≤ xs 2 ∧ xs 2 ≤ 40) ∧ (0 ≤ xs 3 ∧ xs 3 ≤ 20) ∧ (0 ≤ xs 4 ∧ xs 4 ≤ 1)
  · exact la_0_ok hl h.1 h.2.1 h.2.2.1 h.2.2.2
  · exact la_0_no hl h
theorem lk_1 (hl : l.stackTraces = false) : ∃ h' : j_H, (h'.1.length ≤ 400 ∧ h'.2 ≤ 20000) ∧ Rn l D ad tc 6 xs mL_law 200 6000 264 [(5, .int 0), (4, .ref 93), (3, .ref 92), (2, .ref 85), (1, .ref 1), (0, .ref 0)] [] (wd s0 (mdl (j_a0 D) 0 0 0 ++ [ol 0, od 0]), 6544) (some (.int 1)) h' := by
  exact la_1_no hl
theorem lk_2 (hl : l.stackTraces = false) : ∃ h' : j_H, (h'.1.length ≤ 400 ∧ h'.2 ≤ 20000) ∧ Rn l D ad tc 6 xs mL_law 200 6000 344 [(5, .int 0), (4, .ref 93), (3, .ref 92), (2, .ref 85), (1, .ref 1), (0, .ref 0)] [] (wd s0 (mdl (j_a0 D) 0 0 0 ++ [ol 0, od 0]), 6544) (some (.int 1)) h' := by
  by_cases h : (8 ≤ xs 1 ∧ xs 1 ≤ 16) ∧ (1 ≤ xs 2 ∧ xs 2 ≤ 8)
  · obtain ⟨p, e1, hp⟩ := nat_le (m := 16) (Int32.le_trans (by decide) h.1.1) (Int32.le_iff_toInt_le.mp h.1.2)
    obtain ⟨q, e2, hq⟩ := nat_le (m := 16) (Int32.le_trans (by decide) h.2.1) (Int32.le_iff_toInt_le.mp (Int32.le_trans h.2.2 (by decide : (8 : Int32) ≤ 16)))
    exact la_2_ok hl e1 e2 hp hq h.1 h.2
  · exact la_2_no hl h
theorem lk_3 (hl : l.stackTraces = false) : ∃ h' : j_H, (h'.1.length ≤ 400 ∧ h'.2 ≤ 20000) ∧ Rn l D ad tc 6 xs mL_law 200 6000 412 [(5, .int 0), (4, .ref 93), (3, .ref 92), (2, .ref 85), (1, .ref 1), (0, .ref 0)] [] (wd s0 (mdl (j_a0 D) 0 0 0 ++ [ol 0, od 0]), 6544) (some (.int 1)) h' := by
  by_cases h : 0 ≤ xs 1 ∧ xs 1 ≤ 8
  · exact la_3_in hl h
  · exact la_3_no hl h
theorem lk_4 (hl : l.stackTraces = false) : ∃ h' : j_H, (h'.1.length ≤ 400 ∧ h'.2 ≤ 20000) ∧ Rn l D ad tc 6 xs mL_law 200 6000 504 [(5, .int 0), (4, .ref 93), (3, .ref 92), (2, .ref 85), (1, .ref 1), (0, .ref 0)] [] (wd s0 (mdl (j_a0 D) 0 0 0 ++ [ol 0, od 0]), 6544) (some (.int 1)) h' := by
  exact la_4_no hl
theorem lk_5 (hl : l.stackTraces = false) : ∃ h' : j_H, (h'.1.length ≤ 400 ∧ h'.2 ≤ 20000) ∧ Rn l D ad tc 6 xs mL_law 200 6000 572 [(5, .int 0), (4, .ref 93), (3, .ref 92), (2, .ref 85), (1, .ref 1), (0, .ref 0)] [] (wd s0 (mdl (j_a0 D) 0 0 0 ++ [ol 0, od 0]), 6544) (some (.int 1)) h' := by
  exact la_5_no hl
theorem lk_6 (hl : l.stackTraces = false) : ∃ h' : j_H, (h'.1.length ≤ 400 ∧ h'.2 ≤ 20000) ∧ Rn l D ad tc 6 xs mL_law 200 6000 640 [(5, .int 0), (4, .ref 93), (3, .ref 92), (2, .ref 85), (1, .ref 1), (0, .ref 0)] [] (wd s0 (mdl (j_a0 D) 0 0 0 ++ [ol 0, od 0]), 6544) (some (.int 1)) h' := by
  exact la_6_no hl
theorem lk_7 (hl : l.stackTraces = false) : ∃ h' : j_H, (h'.1.length ≤ 400 ∧ h'.2 ≤ 20000) ∧ Rn l D ad tc 6 xs mL_law 200 6000 708 [(5, .int 0), (4, .ref 93), (3, .ref 92), (2, .ref 85), (1, .ref 1), (0, .ref 0)] [] (wd s0 (mdl (j_a0 D) 0 0 0 ++ [ol 0, od 0]), 6544) (some (.int 1)) h' := by
  exact la_7_no hl
theorem lk_8 (hl : l.stackTraces = false) : ∃ h' : j_H, (h'.1.length ≤ 400 ∧ h'.2 ≤ 20000) ∧ Rn l D ad tc 6 xs mL_law 200 6000 776 [(5, .int 0), (4, .ref 93), (3, .ref 92), (2, .ref 85), (1, .ref 1), (0, .ref 0)] [] (wd s0 (mdl (j_a0 D) 0 0 0 ++ [ol 0, od 0]), 6544) (some (.int 1)) h' := by
  by_cases eb : xs 2 = -1
  · by_cases ec : xs 3 = -1
    · by_cases e0 : xs 1 = 0
      · exact la_8_z hl eb ec e0
      · by_cases hk : 2 ≤ xs 1 ∧ xs 1 ≤ 4
        · exact la_8_n hl eb ec e0 hk
        · exact la_8_sort hl eb ec e0 hk
    · exact la_8_to hl eb ec
  · exact la_8_from hl eb
theorem lk_9 (hl : l.stackTraces = false) : ∃ h' : j_H, (h'.1.length ≤ 400 ∧ h'.2 ≤ 20000) ∧ Rn l D ad tc 6 xs mL_law 200 6000 856 [(5, .int 0), (4, .ref 93), (3, .ref 92), (2, .ref 85), (1, .ref 1), (0, .ref 0)] [] (wd s0 (mdl (j_a0 D) 0 0 0 ++ [ol 0, od 0]), 6544) (some (.int 1)) h' := by
  by_cases z1 : xs 1 = 0
  · exact la_9_s0 hl z1
  · exact la_9_s1 hl z1
theorem lk_10 (hl : l.stackTraces = false) : ∃ h' : j_H, (h'.1.length ≤ 400 ∧ h'.2 ≤ 20000) ∧ Rn l D ad tc 6 xs mL_law 200 6000 897 [(5, .int 0), (4, .ref 93), (3, .ref 92), (2, .ref 85), (1, .ref 1), (0, .ref 0)] [] (wd s0 (mdl (j_a0 D) 0 0 0 ++ [ol 0, od 0]), 6544) (some (.int 1)) h' := by
  exact la_10_k hl
theorem lk_11 (hl : l.stackTraces = false) : ∃ h' : j_H, (h'.1.length ≤ 400 ∧ h'.2 ≤ 20000) ∧ Rn l D ad tc 6 xs mL_law 200 6000 910 [(5, .int 0), (4, .ref 93), (3, .ref 92), (2, .ref 85), (1, .ref 1), (0, .ref 0)] [] (wd s0 (mdl (j_a0 D) 0 0 0 ++ [ol 0, od 0]), 6544) (some (.int 1)) h' := by
  exact la_11_no hl
theorem lk_12 (hl : l.stackTraces = false) : ∃ h' : j_H, (h'.1.length ≤ 400 ∧ h'.2 ≤ 20000) ∧ Rn l D ad tc 6 xs mL_law 200 6000 978 [(5, .int 0), (4, .ref 93), (3, .ref 92), (2, .ref 85), (1, .ref 1), (0, .ref 0)] [] (wd s0 (mdl (j_a0 D) 0 0 0 ++ [ol 0, od 0]), 6544) (some (.int 1)) h' := by
  exact la_12_no hl
theorem lk_13 (hl : l.stackTraces = false) : ∃ h' : j_H, (h'.1.length ≤ 400 ∧ h'.2 ≤ 20000) ∧ Rn l D ad tc 6 xs mL_law 200 6000 1046 [(5, .int 0), (4, .ref 93), (3, .ref 92), (2, .ref 85), (1, .ref 1), (0, .ref 0)] [] (wd s0 (mdl (j_a0 D) 0 0 0 ++ [ol 0, od 0]), 6544) (some (.int 1)) h' := by
  exact la_13_no hl
theorem lk_14 (hl : l.stackTraces = false) : ∃ h' : j_H, (h'.1.length ≤ 400 ∧ h'.2 ≤ 20000) ∧ Rn l D ad tc 6 xs mL_law 200 6000 1123 [(5, .int 0), (4, .ref 93), (3, .ref 92), (2, .ref 85), (1, .ref 1), (0, .ref 0)] [] (wd s0 (mdl (j_a0 D) 0 0 0 ++ [ol 0, od 0]), 6544) (some (.int 1)) h' := by
  by_cases z2 : xs 2 = 0
  · exact la_14_no0 hl z2
  · exact la_14_no1 hl z2
theorem lk_15 (hl : l.stackTraces = false) : ∃ h' : j_H, (h'.1.length ≤ 400 ∧ h'.2 ≤ 20000) ∧ Rn l D ad tc 6 xs mL_law 200 6000 1228 [(5, .int 0), (4, .ref 93), (3, .ref 92), (2, .ref 85), (1, .ref 1), (0, .ref 0)] [] (wd s0 (mdl (j_a0 D) 0 0 0 ++ [ol 0, od 0]), 6544) (some (.int 1)) h' := by
  by_cases z4 : xs 4 = 0
  · by_cases z5 : xs 5 = 0
    · exact la_15_no00 hl z4 z5
    · exact la_15_no01 hl z4 z5
  · by_cases z5 : xs 5 = 0
    · exact la_15_no10 hl z4 z5
    · exact la_15_no11 hl z4 z5
theorem lk_16 (hl : l.stackTraces = false) : ∃ h' : j_H, (h'.1.length ≤ 400 ∧ h'.2 ≤ 20000) ∧ Rn l D ad tc 6 xs mL_law 200 6000 1385 [(5, .int 0), (4, .ref 93), (3, .ref 92), (2, .ref 85), (1, .ref 1), (0, .ref 0)] [] (wd s0 (mdl (j_a0 D) 0 0 0 ++ [ol 0, od 0]), 6544) (some (.int 1)) h' := by
  exact la_16_no hl
theorem lk_17 (hl : l.stackTraces = false) : ∃ h' : j_H, (h'.1.length ≤ 400 ∧ h'.2 ≤ 20000) ∧ Rn l D ad tc 6 xs mL_law 200 6000 1453 [(5, .int 0), (4, .ref 93), (3, .ref 92), (2, .ref 85), (1, .ref 1), (0, .ref 0)] [] (wd s0 (mdl (j_a0 D) 0 0 0 ++ [ol 0, od 0]), 6544) (some (.int 1)) h' := by
  by_cases z4 : xs 4 = 0
  · exact la_17_no0 hl z4
  · exact la_17_no1 hl z4
theorem lk_18 (hl : l.stackTraces = false) : ∃ h' : j_H, (h'.1.length ≤ 400 ∧ h'.2 ≤ 20000) ∧ Rn l D ad tc 6 xs mL_law 200 6000 1582 [(5, .int 0), (4, .ref 93), (3, .ref 92), (2, .ref 85), (1, .ref 1), (0, .ref 0)] [] (wd s0 (mdl (j_a0 D) 0 0 0 ++ [ol 0, od 0]), 6544) (some (.int 1)) h' := by
  by_cases z3 : xs 3 = 0
  · exact la_18_no0 hl z3
  · exact la_18_no1 hl z3
theorem lk_19 (hl : l.stackTraces = false) : ∃ h' : j_H, (h'.1.length ≤ 400 ∧ h'.2 ≤ 20000) ∧ Rn l D ad tc 6 xs mL_law 200 6000 1699 [(5, .int 0), (4, .ref 93), (3, .ref 92), (2, .ref 85), (1, .ref 1), (0, .ref 0)] [] (wd s0 (mdl (j_a0 D) 0 0 0 ++ [ol 0, od 0]), 6544) (some (.int 1)) h' := by
  exact la_19_no hl
theorem lk_20 (hl : l.stackTraces = false) : ∃ h' : j_H, (h'.1.length ≤ 400 ∧ h'.2 ≤ 20000) ∧ Rn l D ad tc 6 xs mL_law 200 6000 1788 [(5, .int 0), (4, .ref 93), (3, .ref 92), (2, .ref 85), (1, .ref 1), (0, .ref 0)] [] (wd s0 (mdl (j_a0 D) 0 0 0 ++ [ol 0, od 0]), 6544) (some (.int 1)) h' := by
  exact la_20_no hl
theorem lk_21 (hl : l.stackTraces = false) : ∃ h' : j_H, (h'.1.length ≤ 400 ∧ h'.2 ≤ 20000) ∧ Rn l D ad tc 6 xs mL_law 200 6000 1856 [(5, .int 0), (4, .ref 93), (3, .ref 92), (2, .ref 85), (1, .ref 1), (0, .ref 0)] [] (wd s0 (mdl (j_a0 D) 0 0 0 ++ [ol 0, od 0]), 6544) (some (.int 1)) h' := by
  exact la_21_no hl
theorem lk_22 (hl : l.stackTraces = false) : ∃ h' : j_H, (h'.1.length ≤ 400 ∧ h'.2 ≤ 20000) ∧ Rn l D ad tc 6 xs mL_law 200 6000 1924 [(5, .int 0), (4, .ref 93), (3, .ref 92), (2, .ref 85), (1, .ref 1), (0, .ref 0)] [] (wd s0 (mdl (j_a0 D) 0 0 0 ++ [ol 0, od 0]), 6544) (some (.int 1)) h' := by
  by_cases hk : 0 ≤ xs 1 ∧ xs 1 ≤ 10
  · have h1 := Int32.le_iff_toInt_le.mp hk.1
    have h2 := Int32.le_iff_toInt_le.mp hk.2
    have e0 : (0 : Int32).toInt = 0 := rfl
    have e10 : (10 : Int32).toInt = 10 := rfl
    rcases (by omega : (xs 1).toInt = 0 ∨ (xs 1).toInt = 1 ∨ (xs 1).toInt = 2 ∨ (xs 1).toInt = 3 ∨ (xs 1).toInt = 4 ∨ (xs 1).toInt = 5 ∨ (xs 1).toInt = 6 ∨ (xs 1).toInt = 7 ∨ (xs 1).toInt = 8 ∨ (xs 1).toInt = 9 ∨ (xs 1).toInt = 10) with h | h | h | h | h | h | h | h | h | h | h
    · exact la_22_k0 hl (Int32.toInt_inj.mp h)
    · exact la_22_k1 hl (Int32.toInt_inj.mp h)
    · exact la_22_k2 hl (Int32.toInt_inj.mp h)
    · exact la_22_k3 hl (Int32.toInt_inj.mp h)
    · exact la_22_k4 hl (Int32.toInt_inj.mp h)
    · exact la_22_k5 hl (Int32.toInt_inj.mp h)
    · exact la_22_k6 hl (Int32.toInt_inj.mp h)
    · exact la_22_k7 hl (Int32.toInt_inj.mp h)
    · exact la_22_k8 hl (Int32.toInt_inj.mp h)
    · exact la_22_k9 hl (Int32.toInt_inj.mp h)
    · exact la_22_k10 hl (Int32.toInt_inj.mp h)
  · exact la_22_no hl hk
theorem lk_23 (hl : l.stackTraces = false) : ∃ h' : j_H, (h'.1.length ≤ 400 ∧ h'.2 ≤ 20000) ∧ Rn l D ad tc 6 xs mL_law 200 6000 1980 [(5, .int 0), (4, .ref 93), (3, .ref 92), (2, .ref 85), (1, .ref 1), (0, .ref 0)] [] (wd s0 (mdl (j_a0 D) 0 0 0 ++ [ol 0, od 0]), 6544) (some (.int 1)) h' := by
  by_cases z1 : xs 1 = 0
  · exact la_23_l0 hl z1
  · exact la_23_l1 hl z1
theorem lk_24 (hl : l.stackTraces = false) : ∃ h' : j_H, (h'.1.length ≤ 400 ∧ h'.2 ≤ 20000) ∧ Rn l D ad tc 6 xs mL_law 200 6000 2049 [(5, .int 0), (4, .ref 93), (3, .ref 92), (2, .ref 85), (1, .ref 1), (0, .ref 0)] [] (wd s0 (mdl (j_a0 D) 0 0 0 ++ [ol 0, od 0]), 6544) (some (.int 1)) h' := by
  exact la_24_no hl
theorem lk_25 (hl : l.stackTraces = false) : ∃ h' : j_H, (h'.1.length ≤ 400 ∧ h'.2 ≤ 20000) ∧ Rn l D ad tc 6 xs mL_law 200 6000 2138 [(5, .int 0), (4, .ref 93), (3, .ref 92), (2, .ref 85), (1, .ref 1), (0, .ref 0)] [] (wd s0 (mdl (j_a0 D) 0 0 0 ++ [ol 0, od 0]), 6544) (some (.int 1)) h' := by
  exact la_25_b hl
theorem lk_26 (hl : l.stackTraces = false) : ∃ h' : j_H, (h'.1.length ≤ 400 ∧ h'.2 ≤ 20000) ∧ Rn l D ad tc 6 xs mL_law 200 6000 2151 [(5, .int 0), (4, .ref 93), (3, .ref 92), (2, .ref 85), (1, .ref 1), (0, .ref 0)] [] (wd s0 (mdl (j_a0 D) 0 0 0 ++ [ol 0, od 0]), 6544) (some (.int 1)) h' := by
  by_cases e1 : xs 1 = 0
  · exact la_26_z hl e1
  · exact la_26_no hl e1
theorem lk_27 (hl : l.stackTraces = false) : ∃ h' : j_H, (h'.1.length ≤ 400 ∧ h'.2 ≤ 20000) ∧ Rn l D ad tc 6 xs mL_law 200 6000 2214 [(5, .int 0), (4, .ref 93), (3, .ref 92), (2, .ref 85), (1, .ref 1), (0, .ref 0)] [] (wd s0 (mdl (j_a0 D) 0 0 0 ++ [ol 0, od 0]), 6544) (some (.int 1)) h' := by
  exact la_27_d hl
theorem law_six (hl : l.stackTraces = false) : ∃ h' : j_H, (h'.1.length ≤ 400 ∧ h'.2 ≤ 20000) ∧ Rn l D ad tc 6 xs mL_law 200 6000 28 [(5, .int 0), (4, .ref 93), (3, .ref 92), (2, .ref 85), (1, .ref 1), (0, .ref 0)] [] (wd s0 (mdl (j_a0 D) 0 0 0 ++ [ol 0, od 0]), 6544) (some (.int 1)) h' := by
  obtain ⟨n, hn, e⟩ := and_31 (xs 0)
  rcases (by omega : n = 0 ∨ n = 1 ∨ n = 2 ∨ n = 3 ∨ n = 4 ∨ n = 5 ∨ n = 6 ∨ n = 7 ∨ n = 8 ∨ n = 9 ∨ n = 10 ∨ n = 11 ∨ n = 12 ∨ n = 13 ∨ n = 14 ∨ n = 15 ∨ n = 16 ∨ n = 17 ∨ n = 18 ∨ n = 19 ∨ n = 20 ∨ n = 21 ∨ n = 22 ∨ n = 23 ∨ n = 24 ∨ n = 25 ∨ n = 26 ∨ n = 27 ∨ n = 28 ∨ n = 29 ∨ n = 30 ∨ n = 31) with rfl | rfl | rfl | rfl | rfl | rfl | rfl | rfl | rfl | rfl | rfl | rfl | rfl | rfl | rfl | rfl | rfl | rfl | rfl | rfl | rfl | rfl | rfl | rfl | rfl | rfl | rfl | rfl | rfl | rfl | rfl | rfl
  · obtain ⟨h', hb, K⟩ := lk_0 (D := D) (ad := ad) (tc := tc) (xs := xs) hl
    exact ⟨h', hb, law_to e (rn_topi (y := 0) rfl (rn_tableIn (tgt := 172) dL_law_45 (by decide) (by decide) rfl rfl K))⟩
  · obtain ⟨h', hb, K⟩ := lk_1 (D := D) (ad := ad) (tc := tc) (xs := xs) hl
    exact ⟨h', hb, law_to e (rn_topi (y := 1) rfl (rn_tableIn (tgt := 264) dL_law_45 (by decide) (by decide) rfl rfl K))⟩
  · obtain ⟨h', hb, K⟩ := lk_2 (D := D) (ad := ad) (tc := tc) (xs := xs) hl
    exact ⟨h', hb, law_to e (rn_topi (y := 2) rfl (rn_tableIn (tgt := 344) dL_law_45 (by decide) (by decide) rfl rfl K))⟩
  · obtain ⟨h', hb, K⟩ := lk_3 (D := D) (ad := ad) (tc := tc) (xs := xs) hl
    exact ⟨h', hb, law_to e (rn_topi (y := 3) rfl (rn_tableIn (tgt := 412) dL_law_45 (by decide) (by decide) rfl rfl K))⟩
  · obtain ⟨h', hb, K⟩ := lk_4 (D := D) (ad := ad) (tc := tc) (xs := xs) hl
    exact ⟨h', hb, law_to e (rn_topi (y := 4) rfl (rn_tableIn (tgt := 504) dL_law_45 (by decide) (by decide) rfl rfl K))⟩
  · obtain ⟨h', hb, K⟩ := lk_5 (D := D) (ad := ad) (tc := tc) (xs := xs) hl
    exact ⟨h', hb, law_to e (rn_topi (y := 5) rfl (rn_tableIn (tgt := 572) dL_law_45 (by decide) (by decide) rfl rfl K))⟩
  · obtain ⟨h', hb, K⟩ := lk_6 (D := D) (ad := ad) (tc := tc) (xs := xs) hl
    exact ⟨h', hb, law_to e (rn_topi (y := 6) rfl (rn_tableIn (tgt := 640) dL_law_45 (by decide) (by decide) rfl rfl K))⟩
  · obtain ⟨h', hb, K⟩ := lk_7 (D := D) (ad := ad) (tc := tc) (xs := xs) hl
    exact ⟨h', hb, law_to e (rn_topi (y := 7) rfl (rn_tableIn (tgt := 708) dL_law_45 (by decide) (by decide) rfl rfl K))⟩
  · obtain ⟨h', hb, K⟩ := lk_8 (D := D) (ad := ad) (tc := tc) (xs := xs) hl
    exact ⟨h', hb, law_to e (rn_topi (y := 8) rfl (rn_tableIn (tgt := 776) dL_law_45 (by decide) (by decide) rfl rfl K))⟩
  · obtain ⟨h', hb, K⟩ := lk_9 (D := D) (ad := ad) (tc := tc) (xs := xs) hl
    exact ⟨h', hb, law_to e (rn_topi (y := 9) rfl (rn_tableIn (tgt := 856) dL_law_45 (by decide) (by decide) rfl rfl K))⟩
  · obtain ⟨h', hb, K⟩ := lk_10 (D := D) (ad := ad) (tc := tc) (xs := xs) hl
    exact ⟨h', hb, law_to e (rn_topi (y := 10) rfl (rn_tableIn (tgt := 897) dL_law_45 (by decide) (by decide) rfl rfl K))⟩
  · obtain ⟨h', hb, K⟩ := lk_11 (D := D) (ad := ad) (tc := tc) (xs := xs) hl
    exact ⟨h', hb, law_to e (rn_topi (y := 11) rfl (rn_tableIn (tgt := 910) dL_law_45 (by decide) (by decide) rfl rfl K))⟩
  · obtain ⟨h', hb, K⟩ := lk_12 (D := D) (ad := ad) (tc := tc) (xs := xs) hl
    exact ⟨h', hb, law_to e (rn_topi (y := 12) rfl (rn_tableIn (tgt := 978) dL_law_45 (by decide) (by decide) rfl rfl K))⟩
  · obtain ⟨h', hb, K⟩ := lk_13 (D := D) (ad := ad) (tc := tc) (xs := xs) hl
    exact ⟨h', hb, law_to e (rn_topi (y := 13) rfl (rn_tableIn (tgt := 1046) dL_law_45 (by decide) (by decide) rfl rfl K))⟩
  · obtain ⟨h', hb, K⟩ := lk_14 (D := D) (ad := ad) (tc := tc) (xs := xs) hl
    exact ⟨h', hb, law_to e (rn_topi (y := 14) rfl (rn_tableIn (tgt := 1123) dL_law_45 (by decide) (by decide) rfl rfl K))⟩
  · obtain ⟨h', hb, K⟩ := lk_15 (D := D) (ad := ad) (tc := tc) (xs := xs) hl
    exact ⟨h', hb, law_to e (rn_topi (y := 15) rfl (rn_tableIn (tgt := 1228) dL_law_45 (by decide) (by decide) rfl rfl K))⟩
  · obtain ⟨h', hb, K⟩ := lk_16 (D := D) (ad := ad) (tc := tc) (xs := xs) hl
    exact ⟨h', hb, law_to e (rn_topi (y := 16) rfl (rn_tableIn (tgt := 1385) dL_law_45 (by decide) (by decide) rfl rfl K))⟩
  · obtain ⟨h', hb, K⟩ := lk_17 (D := D) (ad := ad) (tc := tc) (xs := xs) hl
    exact ⟨h', hb, law_to e (rn_topi (y := 17) rfl (rn_tableIn (tgt := 1453) dL_law_45 (by decide) (by decide) rfl rfl K))⟩
  · obtain ⟨h', hb, K⟩ := lk_18 (D := D) (ad := ad) (tc := tc) (xs := xs) hl
    exact ⟨h', hb, law_to e (rn_topi (y := 18) rfl (rn_tableIn (tgt := 1582) dL_law_45 (by decide) (by decide) rfl rfl K))⟩
  · obtain ⟨h', hb, K⟩ := lk_19 (D := D) (ad := ad) (tc := tc) (xs := xs) hl
    exact ⟨h', hb, law_to e (rn_topi (y := 19) rfl (rn_tableIn (tgt := 1699) dL_law_45 (by decide) (by decide) rfl rfl K))⟩
  · obtain ⟨h', hb, K⟩ := lk_20 (D := D) (ad := ad) (tc := tc) (xs := xs) hl
    exact ⟨h', hb, law_to e (rn_topi (y := 20) rfl (rn_tableIn (tgt := 1788) dL_law_45 (by decide) (by decide) rfl rfl K))⟩
  · obtain ⟨h', hb, K⟩ := lk_21 (D := D) (ad := ad) (tc := tc) (xs := xs) hl
    exact ⟨h', hb, law_to e (rn_topi (y := 21) rfl (rn_tableIn (tgt := 1856) dL_law_45 (by decide) (by decide) rfl rfl K))⟩
  · obtain ⟨h', hb, K⟩ := lk_22 (D := D) (ad := ad) (tc := tc) (xs := xs) hl
    exact ⟨h', hb, law_to e (rn_topi (y := 22) rfl (rn_tableIn (tgt := 1924) dL_law_45 (by decide) (by decide) rfl rfl K))⟩
  · obtain ⟨h', hb, K⟩ := lk_23 (D := D) (ad := ad) (tc := tc) (xs := xs) hl
    exact ⟨h', hb, law_to e (rn_topi (y := 23) rfl (rn_tableIn (tgt := 1980) dL_law_45 (by decide) (by decide) rfl rfl K))⟩
  · obtain ⟨h', hb, K⟩ := lk_24 (D := D) (ad := ad) (tc := tc) (xs := xs) hl
    exact ⟨h', hb, law_to e (rn_topi (y := 24) rfl (rn_tableIn (tgt := 2049) dL_law_45 (by decide) (by decide) rfl rfl K))⟩
  · obtain ⟨h', hb, K⟩ := lk_25 (D := D) (ad := ad) (tc := tc) (xs := xs) hl
    exact ⟨h', hb, law_to e (rn_topi (y := 25) rfl (rn_tableIn (tgt := 2138) dL_law_45 (by decide) (by decide) rfl rfl K))⟩
  · obtain ⟨h', hb, K⟩ := lk_26 (D := D) (ad := ad) (tc := tc) (xs := xs) hl
    exact ⟨h', hb, law_to e (rn_topi (y := 26) rfl (rn_tableIn (tgt := 2151) dL_law_45 (by decide) (by decide) rfl rfl K))⟩
  · obtain ⟨h', hb, K⟩ := lk_27 (D := D) (ad := ad) (tc := tc) (xs := xs) hl
    exact ⟨h', hb, law_to e (rn_topi (y := 27) rfl (rn_tableIn (tgt := 2214) dL_law_45 (by decide) (by decide) rfl rfl K))⟩
  · exact ⟨_, ⟨by simp [wd_len, mdl], Nat.le_of_ble_eq_true rfl⟩, law_to e (rn_topi (y := 28) rfl (rn_tableOut (tgt := 2228) dL_law_45 (by decide) rfl (law_tail rfl rfl)))⟩
  · exact ⟨_, ⟨by simp [wd_len, mdl], Nat.le_of_ble_eq_true rfl⟩, law_to e (rn_topi (y := 29) rfl (rn_tableOut (tgt := 2228) dL_law_45 (by decide) rfl (law_tail rfl rfl)))⟩
  · exact ⟨_, ⟨by simp [wd_len, mdl], Nat.le_of_ble_eq_true rfl⟩, law_to e (rn_topi (y := 30) rfl (rn_tableOut (tgt := 2228) dL_law_45 (by decide) rfl (law_tail rfl rfl)))⟩
  · exact ⟨_, ⟨by simp [wd_len, mdl], Nat.le_of_ble_eq_true rfl⟩, law_to e (rn_topi (y := 31) rfl (rn_tableOut (tgt := 2228) dL_law_45 (by decide) rfl (law_tail rfl rfl)))⟩
theorem law_all (hl : l.stackTraces = false) (hL : L ≤ 6) : ∃ h' : j_H, (h'.1.length ≤ 400 ∧ h'.2 ≤ 20000) ∧ Rn l D ad tc L xs mL_law 200 6000 0 [(0, .ref 0)] [] ([], 0) (some (.int 1)) h' := by
  by_cases h : L < 6
  · exact ⟨_, ⟨by simp [wd_len, mdl], Nat.le_of_ble_eq_true rfl⟩, law_start (law_short h)⟩
  · have : L = 6 := by omega
    subst this
    obtain ⟨h', hb, K⟩ := law_six (D := D) (ad := ad) (tc := tc) (xs := xs) hl
    exact ⟨h', hb, law_start K⟩
end LG
