/-! Paths: prepare -/
theorem Told_c {S S' : jS} {n nr nc nk : Nat} (h1 : S'.1 = S.1) (h2 : S'.2.2 = S.2.2) (h : Told S n nr nc nk) : Told S' n nr nc nk := by
  obtain ⟨a, b, c⟩ := S
  obtain ⟨a', b', c'⟩ := S'
  cases h1
  cases h2
  exact h
def zC (C : Nat → Int32) (g m : Nat) : Nat → Int32 := fun x => if x % 16 = g ∧ x / 16 < m then 0 else C x
theorem zC_0 (C : Nat → Int32) (g : Nat) : zC C g 0 = C := by
  funext x
  simp [zC]
theorem zC_s {C : Nat → Int32} {g m : Nat} (hg : g < 16) : upd (zC C g m) (m * 16 + g) 0 = zC C g (m + 1) := by
  funext x
  unfold upd zC
  by_cases h : x = m * 16 + g
  · subst h
    rw [if_pos rfl, if_pos ⟨by omega, by omega⟩]
  · rw [if_neg h]
    by_cases h2 : x % 16 = g ∧ x / 16 < m
    · rw [if_pos h2, if_pos ⟨h2.1, by omega⟩]
    · rw [if_neg h2, if_neg (fun z => h2 ⟨z.1, by omega⟩)]
def sN1 (X : jS) (n m : Nat) : jS := pA (pA X 41 (zC (X.2.1 41) m n)) 39 (upd (X.2.1 39) m 0)
/-- what prepare does of the node m -/
def sN2 (X : jS) (n m : Nat) : jS := if stB X m = true then pA (pA (sN1 X n m) 39 (upd ((sN1 X n m).2.1 39) m (1 <<< (nI m &&& 31)))) 41 (upd ((sN1 X n m).2.1 41) (m * 16 + m) 1) else if gaB X m = true then sJoin (sJoin (sN1 X n m) n m (fe1 X m)) n m (fe2 X m) else sN1 X n m
def sPrep (S : jS) (n : Nat) : Nat → jS
  | 0 => S
  | m + 1 => sN2 (sPrep S n m) n m
def sChks (S : jS) (n nr : Nat) : Nat → jS
  | 0 => S
  | e + 1 => sChk (sChks S n nr e) nr e n
def sPaths (S : jS) (n nr : Nat) : jS := if sI S 38 5 = 0 then pI (sChks (sPrep S n n) n nr n) 38 5 1 else S
theorem sJoin_c (S : jS) (n g : Nat) (v : Int32) : (sJoin S n g v).1 = S.1 ∧ (sJoin S n g v).2.2 = S.2.2 := by
  unfold sJoin
  split <;> exact ⟨rfl, rfl⟩
theorem sN2_c (X : jS) (n m : Nat) : (sN2 X n m).1 = X.1 ∧ (sN2 X n m).2.2 = X.2.2 := by
  unfold sN2
  split
  · exact ⟨rfl, rfl⟩
  · split
    · exact ⟨(sJoin_c _ _ _ _).1.trans (sJoin_c _ _ _ _).1, (sJoin_c _ _ _ _).2.trans (sJoin_c _ _ _ _).2⟩
    · exact ⟨rfl, rfl⟩
theorem sPrep_c (S : jS) (n : Nat) : ∀ m, (sPrep S n m).1 = S.1 ∧ (sPrep S n m).2.2 = S.2.2
  | 0 => ⟨rfl, rfl⟩
  | m + 1 => ⟨(sN2_c _ _ _).1.trans (sPrep_c S n m).1, (sN2_c _ _ _).2.trans (sPrep_c S n m).2⟩
theorem sChks_c (S : jS) (n nr : Nat) : ∀ m, (sChks S n nr m).1 = S.1 ∧ (sChks S n nr m).2.2 = S.2.2
  | 0 => ⟨rfl, rfl⟩
  | m + 1 => sChks_c S n nr m
section P4
variable {l : Launch} {D : va_G} {ad : Nat → Nat} {tc : Nat → ClassId} {L : Nat} {xs : Nat → Int32} {S : jS} {E : List j_C} {sl : Nat}
set_option maxRecDepth 20000 in
theorem lp_X6_prepZ {X : jS} {n m : Nat} {r : Option Value} {h' : j_H} (hN : sI X 1 6 = nI n) (hn : n ≤ 16) (hm : m < 16) (K : Rn l D ad tc L xs mX6_prepare 3 73 62 [(2, .ref (m + 14)), (1, .int (nI m)), (0, .ref 39)] [] (wd (pA X 41 (zC (X.2.1 41) m n)) E, sl) r h') : ∀ j k : Nat, k + j = n → Rn l D ad tc L xs mX6_prepare 3 73 33 [(3, .int (nI k)), (2, .ref (m + 14)), (1, .int (nI m)), (0, .ref 39)] [] (wd (pA X 41 (zC (X.2.1 41) m k)) E, sl) r h' := by
  intro j
  induction j with
  | zero =>
    intro k hk
    have hk' : k = n := by omega
    subst hk'
    refine rn_iload_n dX6_prepare_33 rfl ?_
    refine rn_aload_n dX6_prepare_34 rfl ?_
    refine rn_getfield dX6_prepare_35 fo_X6_24 h_paths rfl ?_
    refine rn_getfield dX6_prepare_38 fo_X6_32 h_chip rfl ?_
    rw [show sI (pA X 41 _) 1 6 = _ from hN]
    refine rn_icmp_ge (tgt := 62) dX6_prepare_41 rfl (fun _ => ?_) (fun q1 => absurd (by exact Int32.le_refl _) q1)
    exact rn_subg rfl K
  | succ j ih =>
    intro k hk
    refine rn_iload_n dX6_prepare_33 rfl ?_
    refine rn_aload_n dX6_prepare_34 rfl ?_
    refine rn_getfield dX6_prepare_35 fo_X6_24 h_paths rfl ?_
    refine rn_getfield dX6_prepare_38 fo_X6_32 h_chip rfl ?_
    rw [show sI (pA X 41 _) 1 6 = _ from hN]
    refine rn_icmp_ge (tgt := 62) dX6_prepare_41 rfl (fun q1 => absurd q1 (by rw [Int32.le_iff_toInt_le, nI_toInt (by omega), nI_toInt (by omega)] at q1; omega)) (fun _ => ?_)
    refine rn_aload_n dX6_prepare_44 rfl ?_
    refine rn_getfield dX6_prepare_45 fo_X6_18 h_paths rfl ?_
    refine rn_iload_n dX6_prepare_48 rfl ?_
    refine rn_bipush (v := nI 16) dX6_prepare_49 (by decide) ?_
    refine rn_imul dX6_prepare_51 ?_
    refine rn_topi (nI_mul _ _) ?_
    refine rn_iload_n dX6_prepare_52 rfl ?_
    refine rn_iadd dX6_prepare_53 ?_
    refine rn_topi (nI_add _ _) ?_
    refine rn_iconst (v := 0) dX6_prepare_54 rfl ?_
    refine rn_pA dX6_prepare_55 (by decide) rfl (fun _ => rfl) (vp_in_nI (by omega) (by decide)) ?_
    rw [nI_clamp (by omega)]
    refine rn_eq (h2 := (wd (pA X 41 (zC (X.2.1 41) m (k + 1))) E, sl)) (by rw [pA_pA]; show (wd (pA X 41 (upd (zC (X.2.1 41) m k) (k * 16 + m) 0)) E, sl) = _; rw [zC_s hm]) ?_
    refine rn_iinc dX6_prepare_56 rfl (nI_1 _) (by decide) rfl ?_
    refine rn_goto (tgt := 33) dX6_prepare_59 rfl ?_
    exact rn_subg rfl (ih (k + 1) (by omega))
set_option maxRecDepth 20000 in
theorem lp_X6_prepC {n nr nc nk : Nat} (hT : Told S n nr nc nk) : ∀ j e : Nat, e + j = n → Rn l D ad tc L xs mX6_prepare 3 73 133 [(1, .int (nI e)), (0, .ref 39)] [] (wd (sChks S n nr e) E, sl) none (wd (pI (sChks S n nr n) 38 5 1) E, sl) := by
  obtain ⟨⟨hN, hn⟩, ⟨hR, hr⟩, -, -, hv, hnd, -, hck, -, hru⟩ := id hT
  intro j
  induction j with
  | zero =>
    intro e he
    have he' : e = n := by omega
    subst he'
    have hN1 : sI (sChks S e nr e) 1 6 = nI e := by unfold sI; rw [(sChks_c _ _ _ _).1]; exact hN
    refine rn_iload_n dX6_prepare_133 rfl ?_
    refine rn_aload_n dX6_prepare_134 rfl ?_
    refine rn_getfield dX6_prepare_135 fo_X6_24 h_paths rfl ?_
    refine rn_getfield dX6_prepare_138 fo_X6_32 h_chip rfl ?_
    rw [hN1]
    refine rn_icmp_ge (tgt := 155) dX6_prepare_141 rfl (fun _ => ?_) (fun q1 => absurd (by exact Int32.le_refl _) q1)
    refine rn_aload_n dX6_prepare_155 rfl ?_
    refine rn_iconst (v := 1) dX6_prepare_156 rfl ?_
    refine rn_pI dX6_prepare_157 fp_X6_28 (by decide) rfl rfl (by simp) ⟨rfl, rfl⟩ ⟨_, _, _, rfl, rfl⟩ ?_
    exact rn_ret dX6_prepare_160 trivial rfl
  | succ j ih =>
    intro e he
    have hN1 : sI (sChks S n nr e) 1 6 = nI n := by unfold sI; rw [(sChks_c _ _ _ _).1]; exact hN
    have hT1 : Told (sChks S n nr e) n nr nc nk := Told_c (sChks_c _ _ _ _).1 (sChks_c _ _ _ _).2 hT
    refine rn_iload_n dX6_prepare_133 rfl ?_
    refine rn_aload_n dX6_prepare_134 rfl ?_
    refine rn_getfield dX6_prepare_135 fo_X6_24 h_paths rfl ?_
    refine rn_getfield dX6_prepare_138 fo_X6_32 h_chip rfl ?_
    rw [hN1]
    refine rn_icmp_ge (tgt := 155) dX6_prepare_141 rfl (fun q1 => absurd q1 (by rw [Int32.le_iff_toInt_le, nI_toInt (by omega), nI_toInt (by omega)] at q1; omega)) (fun _ => ?_)
    refine rn_aload_n dX6_prepare_144 rfl ?_
    refine rn_iload_n dX6_prepare_145 rfl ?_
    refine rn_callV dX6_prepare_146 cv_X6_61 (c_X6_check hT1 (by omega)) rfl h_paths rfl rfl (by decide) (by decide) rfl (Nat.le_of_ble_eq_true rfl) ?_
    refine rn_iinc dX6_prepare_149 rfl (nI_1 _) (by decide) rfl ?_
    refine rn_goto (tgt := 133) dX6_prepare_152 rfl ?_
    exact rn_subg rfl (ih (e + 1) (by omega))
set_option maxRecDepth 20000 in
theorem lp_X6_prepN {n nr nc nk : Nat} (hT : Told S n nr nc nk) : ∀ j m : Nat, m + j = n → Rn l D ad tc L xs mX6_prepare 3 73 10 [(1, .int (nI m)), (0, .ref 39)] [] (wd (sPrep S n m) E, sl) none (wd (pI (sChks (sPrep S n n) n nr n) 38 5 1) E, sl) := by
  obtain ⟨⟨hN, hn⟩, ⟨hR, hr⟩, -, -, hv, hnd, -, hck, -, hru⟩ := id hT
  intro j
  induction j with
  | zero =>
    intro m hm
    have hm' : m = n := by omega
    subst hm'
    have hN1 : sI (sPrep S m m) 1 6 = nI m := by unfold sI; rw [(sPrep_c _ _ _).1]; exact hN
    refine rn_iload_n dX6_prepare_10 rfl ?_
    refine rn_aload_n dX6_prepare_11 rfl ?_
    refine rn_getfield dX6_prepare_12 fo_X6_24 h_paths rfl ?_
    refine rn_getfield dX6_prepare_15 fo_X6_32 h_chip rfl ?_
    rw [hN1]
    refine rn_icmp_ge (tgt := 131) dX6_prepare_18 rfl (fun _ => ?_) (fun q1 => absurd (by exact Int32.le_refl _) q1)
    refine rn_iconst (v := 0) dX6_prepare_131 rfl ?_
    refine rn_istore_n dX6_prepare_132 (by decide) rfl ?_
    exact rn_subg rfl (lp_X6_prepC (S := sPrep S m m) (Told_c (sPrep_c _ _ _).1 (sPrep_c _ _ _).2 hT) m 0 (by omega))
  | succ j ih =>
    intro m hm
    have hN1 : sI (sPrep S n m) 1 6 = nI n := by unfold sI; rw [(sPrep_c _ _ _).1]; exact hN
    have ih := ih (m + 1) (by omega)
    refine rn_iload_n dX6_prepare_10 rfl ?_
    refine rn_aload_n dX6_prepare_11 rfl ?_
    refine rn_getfield dX6_prepare_12 fo_X6_24 h_paths rfl ?_
    refine rn_getfield dX6_prepare_15 fo_X6_32 h_chip rfl ?_
    rw [hN1]
    refine rn_icmp_ge (tgt := 131) dX6_prepare_18 rfl (fun q1 => absurd q1 (by rw [Int32.le_iff_toInt_le, nI_toInt (by omega), nI_toInt (by omega)] at q1; omega)) (fun _ => ?_)
    refine rn_aload_n dX6_prepare_21 rfl ?_
    refine rn_getfield dX6_prepare_22 fo_X6_24 h_paths rfl ?_
    refine rn_getfield dX6_prepare_25 fo_X6_38 h_chip rfl ?_
    refine rn_iload_n dX6_prepare_28 rfl ?_
    refine rn_aaload dX6_prepare_29 h_nodes rfl (vp_in_nI (by omega) (by decide)) (refs_at rfl (by omega) (by decide)) ?_
    refine rn_astore_n dX6_prepare_30 (by decide) rfl ?_
    refine rn_iconst (v := 0) dX6_prepare_31 rfl ?_
    refine rn_istore_n dX6_prepare_32 (by decide) rfl ?_
    refine rn_eq (h2 := (wd (pA (sPrep S n m) 41 (zC ((sPrep S n m).2.1 41) m 0)) E, sl)) (by rw [zC_0, pA_id rfl]) ?_
    refine rn_subg rfl (lp_X6_prepZ (X := sPrep S n m) hN1 hn (by omega) ?_ n 0 (by omega))
    refine rn_aload_n dX6_prepare_62 rfl ?_
    refine rn_getfield dX6_prepare_63 fo_X6_9 h_paths rfl ?_
    refine rn_iload_n dX6_prepare_66 rfl ?_
    refine rn_iconst (v := 0) dX6_prepare_67 rfl ?_
    refine rn_pA dX6_prepare_68 (by decide) rfl (fun _ => rfl) (vp_in_nI (by omega) (by decide)) ?_
    rw [nI_clamp (by omega)]
    refine rn_aload_n dX6_prepare_69 rfl ?_
    refine rn_callV dX6_prepare_70 cv_X6_42 (c_X5_isStart (by omega)) rfl (h_node (by omega)) rfl rfl (by decide) (by decide) rfl (Nat.le_of_ble_eq_true rfl) ?_
    refine rn_if_eq (tgt := 100) dX6_prepare_73 rfl (fun q2 => ?_) (fun q2 => ?_)
    · rw [bI_0] at q2
      replace q2 : stB (sPrep S n m) m = false := q2
      refine rn_aload_n dX6_prepare_100 rfl ?_
      refine rn_callV dX6_prepare_101 cv_X6_48 (c_X5_isGate (by omega)) rfl (h_node (by omega)) rfl rfl (by decide) (by decide) rfl (Nat.le_of_ble_eq_true rfl) ?_
      refine rn_if_eq (tgt := 125) dX6_prepare_104 rfl (fun q3 => ?_) (fun q3 => ?_)
      · rw [bI_0] at q3
        replace q3 : gaB (sPrep S n m) m = false := q3
        have hst : sN1 (sPrep S n m) n m = sPrep S n (m + 1) := by show _ = sN2 (sPrep S n m) n m; unfold sN2; rw [if_neg (by rw [q2]; decide), if_neg (by rw [q3]; decide)]
        refine rn_eq (congrArg (fun x => (wd x E, sl)) hst) (rn_iinc dX6_prepare_125 rfl (nI_1 _) (by decide) rfl (rn_goto (tgt := 10) dX6_prepare_128 rfl (rn_subg rfl ih)))
      · rw [bI_n] at q3
        replace q3 : gaB (sPrep S n m) m = true := q3
        have hN2 : sI (sN1 (sPrep S n m) n m) 1 6 = nI n := hN1
        have hN3 : sI (sJoin (sN1 (sPrep S n m) n m) n m (fe1 (sPrep S n m) m)) 1 6 = nI n := by unfold sI; rw [(sJoin_c _ _ _ _).1]; exact hN1
        have hT1 : Told (sPrep S n m) n nr nc nk := Told_c (sPrep_c _ _ _).1 (sPrep_c _ _ _).2 hT
        have hga : (1 : Int32) ≤ kd (sPrep S n m) m ∧ kd (sPrep S n m) m ≤ 5 := of_decide_eq_true q3
        have hk6 : kd (sPrep S n m) m ≠ 6 := fun z => by rw [z] at hga; exact absurd hga.2 (by decide)
        have hfm := hT1.2.2.2.2.2.1 m (by omega)
        have lt_of : ∀ v : Int32, (v = -1 ∨ ∃ a, a < m ∧ v = nI a) → ∀ f : Nat, v = nI f → f ≠ m := fun v hv f hf hfm => by
          subst hfm
          rcases hv with hv | ⟨a, ha, hv⟩
          · rw [hv] at hf
            have := congrArg Int32.toInt hf
            rw [nI_toInt (by omega)] at this
            exact absurd this (by have : (-1 : Int32).toInt = -1 := by decide
                                  omega)
          · have := (nI_eq (by omega) (by omega)).mp (hv.symm.trans hf)
            omega
        have j1 := lt_of _ (hfm.2.2.1 hk6)
        have j2 := lt_of _ hfm.2.2.2
        refine rn_aload_n dX6_prepare_107 rfl ?_
        refine rn_iload_n dX6_prepare_108 rfl ?_
        refine rn_aload_n dX6_prepare_109 rfl ?_
        refine rn_getfield dX6_prepare_110 fo_X6_51 (h_node (by omega)) rfl ?_
        refine rn_callV dX6_prepare_113 cv_X6_54 (c_X6_join (n := n) hN2 hn (by omega) j1) rfl h_paths rfl rfl (by decide) (by decide) rfl (Nat.le_of_ble_eq_true rfl) ?_
        refine rn_aload_n dX6_prepare_116 rfl ?_
        refine rn_iload_n dX6_prepare_117 rfl ?_
        refine rn_aload_n dX6_prepare_118 rfl ?_
        refine rn_getfield dX6_prepare_119 fo_X6_58 (h_node (by omega)) rfl ?_
        refine rn_topi (y := fe2 (sPrep S n m) m) (by unfold sI; rw [(sJoin_c _ _ _ _).1]; rfl) ?_
        refine rn_callV dX6_prepare_122 cv_X6_54 (c_X6_join (n := n) hN3 hn (by omega) j2) rfl h_paths rfl rfl (by decide) (by decide) rfl (Nat.le_of_ble_eq_true rfl) ?_
        have hst : sJoin (sJoin (sN1 (sPrep S n m) n m) n m (fe1 (sPrep S n m) m)) n m (fe2 (sPrep S n m) m) = sPrep S n (m + 1) := by show _ = sN2 (sPrep S n m) n m; unfold sN2; rw [if_neg (by rw [q2]; decide), if_pos q3]
        refine rn_eq (congrArg (fun x => (wd x E, sl)) hst) (rn_iinc dX6_prepare_125 rfl (nI_1 _) (by decide) rfl (rn_goto (tgt := 10) dX6_prepare_128 rfl (rn_subg rfl ih)))
    · rw [bI_n] at q2
      replace q2 : stB (sPrep S n m) m = true := q2
      refine rn_aload_n dX6_prepare_76 rfl ?_
      refine rn_getfield dX6_prepare_77 fo_X6_9 h_paths rfl ?_
      refine rn_iload_n dX6_prepare_80 rfl ?_
      refine rn_iconst (v := 1) dX6_prepare_81 rfl ?_
      refine rn_iload_n dX6_prepare_82 rfl ?_
      refine rn_ishl dX6_prepare_83 ?_
      refine rn_pA dX6_prepare_84 (by decide) rfl (fun _ => rfl) (vp_in_nI (by omega) (by decide)) ?_
      rw [nI_clamp (by omega)]
      refine rn_aload_n dX6_prepare_85 rfl ?_
      refine rn_getfield dX6_prepare_86 fo_X6_18 h_paths rfl ?_
      refine rn_iload_n dX6_prepare_89 rfl ?_
      refine rn_bipush (v := nI 16) dX6_prepare_90 (by decide) ?_
      refine rn_imul dX6_prepare_92 ?_
      refine rn_topi (nI_mul _ _) ?_
      refine rn_iload_n dX6_prepare_93 rfl ?_
      refine rn_iadd dX6_prepare_94 ?_
      refine rn_topi (nI_add _ _) ?_
      refine rn_iconst (v := 1) dX6_prepare_95 rfl ?_
      refine rn_pA dX6_prepare_96 (by decide) rfl (fun _ => rfl) (vp_in_nI (by omega) (by decide)) ?_
      rw [nI_clamp (by omega)]
      refine rn_goto (tgt := 125) dX6_prepare_97 rfl ?_
      have hst : pA (pA (sN1 (sPrep S n m) n m) 39 (upd ((sN1 (sPrep S n m) n m).2.1 39) m (1 <<< (nI m &&& 31)))) 41 (upd ((sN1 (sPrep S n m) n m).2.1 41) (m * 16 + m) 1) = sPrep S n (m + 1) := by show _ = sN2 (sPrep S n m) n m; unfold sN2; rw [if_pos q2]
      refine rn_eq (congrArg (fun x => (wd x E, sl)) hst) (rn_iinc dX6_prepare_125 rfl (nI_1 _) (by decide) rfl (rn_goto (tgt := 10) dX6_prepare_128 rfl (rn_subg rfl ih)))
set_option maxRecDepth 20000 in
theorem c_X6_prepare {n nr nc nk : Nat} (hT : Told S n nr nc nk) : Cn l D ad tc L xs mX6_prepare 3 73 [.ref 39] (wd S E, sl) none (wd (sPaths S n nr) E, sl) := by
  refine cn_of (lv0 := [(0, .ref 39)]) (by decide +kernel) rfl (fun _ => by simp [lg_sl, j_v, Value.category]) (fun _ => rfl) ?_
  refine rn_aload_n dX6_prepare_0 rfl ?_
  refine rn_getfield dX6_prepare_1 fo_X6_28 h_paths rfl ?_
  refine rn_if_eq (tgt := 8) dX6_prepare_4 rfl (fun q1 => ?_) (fun q1 => ?_)
  · refine rn_iconst (v := 0) dX6_prepare_8 rfl ?_
    refine rn_istore_n dX6_prepare_9 (by decide) rfl ?_
    rw [show sPaths S n nr = pI (sChks (sPrep S n n) n nr n) 38 5 1 by unfold sPaths; rw [if_pos q1]]
    exact rn_subg rfl (lp_X6_prepN hT n 0 (by omega))
  · exact rn_eq (by unfold sPaths; rw [if_neg q1]) (rn_ret dX6_prepare_7 trivial rfl)
end P4
