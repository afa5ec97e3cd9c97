/-! Paths: what hangs on neither sizes nor corners -/
theorem pA_pA {S : jS} {k : Nat} {g1 g2 : Nat → Int32} : pA (pA S k g1) k g2 = pA S k g2 := by
  unfold pA
  congr 2
  funext a
  by_cases h : a = k <;> simp [up1, h]
theorem pA_id {S : jS} {k : Nat} {g : Nat → Int32} (h : g = S.2.1 k) : pA S k g = S := by
  subst h
  obtain ⟨a, b, c⟩ := S
  unfold pA
  congr 2
  funext x
  by_cases h : x = k <;> simp [up1, h]
theorem pA_eq {S : jS} {k : Nat} {g : Nat → Int32} : (pA S k g).2.1 k = g := if_pos rfl
theorem pA_ne {S : jS} {k a : Nat} {g : Nat → Int32} (h : a ≠ k) : (pA S k g).2.1 a = S.2.1 a := if_neg h
/-- the counts of a gate, with those of a feed added, for the starts below m -/
def jC (C : Nat → Int32) (g f m : Nat) : Nat → Int32 := fun x => if x % 16 = g ∧ x / 16 < m then C x + C (x / 16 * 16 + f) else C x
theorem nI_below {v : Int32} {n : Nat} (h0 : 0 ≤ v) (h1 : v < nI n) (hn : n < 2 ^ 31) : ∃ f, f < n ∧ v = nI f := by
  obtain ⟨j, hj, rfl⟩ := nI_of (x := v) (fun q => by rw [Int32.lt_iff_toInt_lt] at q; rw [Int32.le_iff_toInt_le] at h0; omega)
  exact ⟨j, (nI_ltI hj hn).mp h1, rfl⟩
theorem jC_0 (C : Nat → Int32) (g f : Nat) : jC C g f 0 = C := by
  funext x
  simp [jC]
theorem jC_s {C : Nat → Int32} {g f m : Nat} (hg : g < 16) (hf : f < 16) (hfg : f ≠ g) : upd (jC C g f m) (m * 16 + g) (jC C g f m (m * 16 + g) + jC C g f m (m * 16 + f)) = jC C g f (m + 1) := by
  funext x
  unfold upd jC
  by_cases h : x = m * 16 + g
  · subst h
    rw [if_pos rfl, if_neg (by omega), if_neg (by omega), if_pos ⟨by omega, by omega⟩, show (m * 16 + g) / 16 = m by omega]
  · rw [if_neg h]
    by_cases h2 : x % 16 = g ∧ x / 16 < m
    · rw [if_pos h2, if_pos ⟨h2.1, by omega⟩]
    · rw [if_neg h2, if_neg (fun z => h2 ⟨z.1, by omega⟩)]
section P1
variable {l : Launch} {D : va_G} {ad : Nat → Nat} {tc : Nat → ClassId} {L : Nat} {xs : Nat → Int32} {S : jS} {E : List j_C} {sl : Nat}
set_option maxRecDepth 20000 in
theorem lp_X6_join {f g : Nat} (hf : f < 16) (hg : g < 16) (hfg : f ≠ g) : ∀ k m : Nat, m + k = f + 1 → Rn l D ad tc L xs mX6_join 1 21 29 [(3, .int (nI m)), (0, .ref 39), (1, .int (nI g)), (2, .int (nI f))] [] (wd (pA S 41 (jC (S.2.1 41) g f m)) E, sl) none (wd (pA S 41 (jC (S.2.1 41) g f (f + 1))) E, sl) := by
  intro k
  induction k with
  | zero =>
    intro m hm
    have hm' : m = f + 1 := by omega
    subst hm'
    refine rn_iload_n dX6_join_29 rfl ?_
    refine rn_iload_n dX6_join_30 rfl ?_
    refine rn_icmp_gt (tgt := 65) dX6_join_31 rfl (fun _ => ?_) (fun q1 => absurd (by rw [Int32.lt_iff_toInt_lt, nI_toInt (by omega), nI_toInt (by omega)]; omega) q1)
    exact rn_ret dX6_join_65 trivial rfl
  | succ k ih =>
    intro m hm
    refine rn_iload_n dX6_join_29 rfl ?_
    refine rn_iload_n dX6_join_30 rfl ?_
    refine rn_icmp_gt (tgt := 65) dX6_join_31 rfl (fun q1 => absurd q1 (by rw [Int32.lt_iff_toInt_lt, nI_toInt (by omega), nI_toInt (by omega)] at q1; omega)) (fun _ => ?_)
    refine rn_aload_n dX6_join_34 rfl ?_
    refine rn_getfield dX6_join_35 fo_X6_18 h_paths rfl ?_
    refine rn_iload_n dX6_join_38 rfl ?_
    refine rn_bipush (v := nI 16) dX6_join_39 (by decide) ?_
    refine rn_imul dX6_join_41 ?_
    refine rn_topi (nI_mul _ _) ?_
    refine rn_iload_n dX6_join_42 rfl ?_
    refine rn_iadd dX6_join_43 ?_
    refine rn_topi (nI_add _ _) ?_
    refine rn_dup2 dX6_join_44 rfl rfl ?_
    refine rn_iaload dX6_join_45 h_counts rfl (vp_in_nI (by omega) (by decide)) ?_
    rw [nI_clamp (by omega)]
    refine rn_aload_n dX6_join_46 rfl ?_
    refine rn_getfield dX6_join_47 fo_X6_18 h_paths rfl ?_
    refine rn_iload_n dX6_join_50 rfl ?_
    refine rn_bipush (v := nI 16) dX6_join_51 (by decide) ?_
    refine rn_imul dX6_join_53 ?_
    refine rn_topi (nI_mul _ _) ?_
    refine rn_iload_n dX6_join_54 rfl ?_
    refine rn_iadd dX6_join_55 ?_
    refine rn_topi (nI_add _ _) ?_
    refine rn_iaload dX6_join_56 h_counts rfl (vp_in_nI (by omega) (by decide)) ?_
    rw [nI_clamp (by omega)]
    refine rn_iadd dX6_join_57 ?_
    refine rn_pA dX6_join_58 (by decide) rfl (fun _ => rfl) (vp_in_nI (by omega) (by decide)) ?_
    rw [nI_clamp (by omega)]
    refine rn_eq (h2 := (wd (pA S 41 (jC (S.2.1 41) g f (m + 1))) E, sl)) (by rw [pA_pA]; show (wd (pA S 41 (upd (jC (S.2.1 41) g f m) (m * 16 + g) (jC (S.2.1 41) g f m (m * 16 + g) + jC (S.2.1 41) g f m (m * 16 + f)))) E, sl) = _; rw [jC_s hg hf hfg]) ?_
    refine rn_iinc dX6_join_59 rfl (nI_1 _) (by decide) rfl ?_
    refine rn_goto (tgt := 29) dX6_join_62 rfl ?_
    exact rn_subg rfl (ih (m + 1) (by omega))
/-- what join leaves: of no feed, nothing -/
def sJoin (S : jS) (n g : Nat) (v : Int32) : jS := if 0 ≤ v ∧ v < nI n then pA (pA S 39 (upd (S.2.1 39) g (S.2.1 39 g ||| S.2.1 39 v.toNatClampNeg))) 41 (jC (S.2.1 41) g v.toNatClampNeg (v.toNatClampNeg + 1)) else S
set_option maxRecDepth 20000 in
theorem c_X6_join {n g : Nat} {v : Int32} (hN : sI S 1 6 = nI n) (hn : n ≤ 16) (hg : g < 16) (hfg : ∀ f, v = nI f → f ≠ g) : Cn l D ad tc L xs mX6_join 1 21 [.ref 39, .int (nI g), .int v] (wd S E, sl) none (wd (sJoin S n g v) E, sl) := by
  refine cn_of (lv0 := [(0, .ref 39), (1, .int (nI g)), (2, .int v)]) (by decide +kernel) rfl (fun _ => by simp [lg_sl, j_v, Value.category]) (fun _ => rfl) ?_
  refine rn_aload_n dX6_join_0 rfl ?_
  refine rn_getfield dX6_join_1 fo_X6_24 h_paths rfl ?_
  refine rn_iload_n dX6_join_4 rfl ?_
  refine rn_callV dX6_join_5 cv_X6_65 c_X1_hasNode rfl h_chip rfl rfl (by decide) (by decide) rfl (Nat.le_of_ble_eq_true rfl) ?_
  refine rn_if_ne (tgt := 12) dX6_join_8 rfl (fun q1 => ?_) (fun q1 => ?_)
  · have hv : 0 ≤ v ∧ v < nI n := by rw [bI_n, decide_eq_true_eq, hN] at q1; exact q1
    obtain ⟨f, hf, rfl⟩ := nI_below hv.1 hv.2 (by omega)
    have hfg := hfg f rfl
    refine rn_aload_n dX6_join_12 rfl ?_
    refine rn_getfield dX6_join_13 fo_X6_9 h_paths rfl ?_
    refine rn_iload_n dX6_join_16 rfl ?_
    refine rn_dup2 dX6_join_17 rfl rfl ?_
    refine rn_iaload dX6_join_18 h_reach rfl (vp_in_nI (by omega) (by decide)) ?_
    rw [nI_clamp (by omega)]
    refine rn_aload_n dX6_join_19 rfl ?_
    refine rn_getfield dX6_join_20 fo_X6_9 h_paths rfl ?_
    refine rn_iload_n dX6_join_23 rfl ?_
    refine rn_iaload dX6_join_24 h_reach rfl (vp_in_nI (by omega) (by decide)) ?_
    rw [nI_clamp (by omega)]
    refine rn_ior dX6_join_25 ?_
    refine rn_pA dX6_join_26 (by decide) rfl (fun _ => rfl) (vp_in_nI (by omega) (by decide)) ?_
    rw [nI_clamp (by omega)]
    refine rn_iconst (v := 0) dX6_join_27 rfl ?_
    refine rn_istore_n dX6_join_28 (by decide) rfl ?_
    refine rn_eq (h2 := (wd (pA (pA S 39 (upd (S.2.1 39) g (S.2.1 39 g ||| S.2.1 39 f))) 41 (jC ((pA S 39 (upd (S.2.1 39) g (S.2.1 39 g ||| S.2.1 39 f))).2.1 41) g f 0)) E, sl)) (by rw [jC_0, pA_id rfl]) ?_
    have hend : sJoin S n g (nI f) = pA (pA S 39 (upd (S.2.1 39) g (S.2.1 39 g ||| S.2.1 39 f))) 41 (jC ((pA S 39 (upd (S.2.1 39) g (S.2.1 39 g ||| S.2.1 39 f))).2.1 41) g f (f + 1)) := by unfold sJoin; rw [if_pos hv, nI_clamp (by omega)]; rfl
    rw [hend]
    exact rn_subg rfl (lp_X6_join (S := (pA S 39 (upd (S.2.1 39) g (S.2.1 39 g ||| S.2.1 39 f)))) (by omega) hg hfg (f + 1) 0 (by omega))
  · have hv : ¬ (0 ≤ v ∧ v < nI n) := by rw [bI_0, decide_eq_false_iff_not, hN] at q1; exact q1
    exact rn_eq (by unfold sJoin; rw [if_neg hv]) (rn_ret dX6_join_11 trivial rfl)
end P1
