/-! Timing: by which spot an arrival came -/
def mkB (S : jS) (i f e : Nat) : Bool := decide (kd S i = 5 ∨ (if kd S i = 2 ∨ kd S i = 4 then nI f ≠ nI e else nI f = nI e))
def okC (S : jS) (s i e : Nat) (v : Int32) (f : Nat) : Bool := decide (v ≠ -1) && bitR (sA S 39) s v.toNatClampNeg && mkB S i f e
/-- one candidate more -/
def srcS (j : Nat) (A : Nat → Int) (ok : Bool) (c : Nat) (b : Int32) : Int32 := if ok = true ∧ (b = -1 ∨ (if isLateT j = 0 then A c < A b.toNatClampNeg else A b.toNatClampNeg < A c)) then nI c else b
def mSrc (S : jS) (j : Nat) (A : Nat → Int) (s i e : Nat) : Int32 :=
  srcS j A (okC S s i e (fe2 S i) 1) ((fe2 S i).toNatClampNeg * 2 + 1) (srcS j A (okC S s i e (fe2 S i) 0) ((fe2 S i).toNatClampNeg * 2 + 0) (srcS j A (okC S s i e (fe1 S i) 1) ((fe1 S i).toNatClampNeg * 2 + 1) (srcS j A (okC S s i e (fe1 S i) 0) ((fe1 S i).toNatClampNeg * 2 + 0) (-1))))
/-- a spot, or none; its arrival is a number of the grid -/
def okB (S : jS) (j s : Nat) (A : Nat → Int) (b : Int32) : Prop := b = -1 ∨ ∃ c, c < 32 ∧ b = nI c ∧ sD S (5 * j + 50) (s * 32 + c) = dv (A c) ∧ dB (A c)
theorem okB_s {S : jS} {j s : Nat} {A : Nat → Int} {ok : Bool} {c : Nat} {b : Int32} (hb : okB S j s A b) (hc : ok = true → c < 32 ∧ sD S (5 * j + 50) (s * 32 + c) = dv (A c) ∧ dB (A c)) : okB S j s A (srcS j A ok c b) := by
  unfold srcS
  by_cases h : ok = true ∧ (b = -1 ∨ (if isLateT j = 0 then A c < A b.toNatClampNeg else A b.toNatClampNeg < A c))
  · rw [if_pos h]
    exact Or.inr ⟨c, (hc h.1).1, rfl, (hc h.1).2⟩
  · rw [if_neg h]
    exact hb
section T3
variable {l : Launch} {D : va_G} {ad : Nat → Nat} {tc : Nat → ClassId} {L : Nat} {xs : Nat → Int32} {S : jS} {E : List j_C} {sl x : Nat}
set_option maxRecDepth 20000 in
theorem lp_src {j s i e f a : Nat} {A : Nat → Int} {t b : Int32} {r : Option Value} {h' : j_H} (hj : j < 7) (hs : s < 16) (hi : i < 16) (he : e ≤ 1) (hf : f ≤ 1) (ha : a < 16) (hb : okB S j s A b)
    (hA : okC S s i e (nI a) f = true → a * 2 + f < 32 ∧ sD S (5 * j + 50) (s * 32 + (a * 2 + f)) = dv (A (a * 2 + f)) ∧ dB (A (a * 2 + f)))
    (K : Rn l D ad tc L xs mX8_sourceOf 1 27 125 [(7, .int (nI f)), (6, .int (nI a)), (5, .int t), (4, .int (srcS j A (okC S s i e (nI a) f) (a * 2 + f) b)), (3, .ref (i + 14)), (0, .ref (5 * j + 50)), (1, .int (nI s)), (2, .int (nI (i * 2 + e)))] [] (wd S E, sl) r h') : Rn l D ad tc L xs mX8_sourceOf 1 27 57 [(7, .int (nI f)), (6, .int (nI a)), (5, .int t), (4, .int b), (3, .ref (i + 14)), (0, .ref (5 * j + 50)), (1, .int (nI s)), (2, .int (nI (i * 2 + e)))] [] (wd S E, sl) r h' := by
  have hna : nI a ≠ -1 := fun z => by
    have := congrArg Int32.toInt z
    rw [nI_toInt (by omega), show (-1 : Int32).toInt = -1 by decide] at this
    omega
  refine rn_aload_n dX8_sourceOf_57 rfl ?_
  refine rn_getfield dX8_sourceOf_58 fo_X8_28 (h_tim (by omega)) rfl ?_
  refine rn_iload_n dX8_sourceOf_61 rfl ?_
  refine rn_iload dX8_sourceOf_62 rfl ?_
  refine rn_callV dX8_sourceOf_64 cv_X8_94 (c_X6_reaches (by omega)) rfl h_paths rfl rfl (by decide) (by decide) rfl (Nat.le_of_ble_eq_true rfl) ?_
  refine rn_if_eq (tgt := 86) dX8_sourceOf_67 rfl (fun q1 => ?_) (fun q1 => ?_)
  · rw [bI_0] at q1
    have hk : okC S s i e (nI a) f = false := by unfold okC; rw [nI_clamp (by omega), show bitR (sA S 39) s a = false from q1]; simp
    have hs0 : srcS j A (okC S s i e (nI a) f) (a * 2 + f) b = b := by unfold srcS; rw [if_neg (fun z => by rw [hk] at z; exact absurd z.1 (by decide))]
    rw [hs0] at K
    refine rn_iconst (v := 0) dX8_sourceOf_86 rfl ?_
    refine rn_istore dX8_sourceOf_87 (by decide) rfl ?_
    refine rn_iload dX8_sourceOf_89 rfl ?_
    refine rn_iconst (v := nI 2) dX8_sourceOf_91 (by decide) ?_
    refine rn_imul dX8_sourceOf_92 ?_
    refine rn_topi (nI_mul _ _) ?_
    refine rn_iload dX8_sourceOf_93 rfl ?_
    refine rn_iadd dX8_sourceOf_95 ?_
    refine rn_topi (nI_add _ _) ?_
    refine rn_istore dX8_sourceOf_96 (by decide) rfl ?_
    refine rn_iload dX8_sourceOf_98 rfl ?_
    refine rn_if_eq (tgt := 125) dX8_sourceOf_100 rfl (fun _ => ?_) (fun q => absurd (by decide) q)
    exact rn_subg rfl K
  · rw [bI_n] at q1
    refine rn_aload_n dX8_sourceOf_70 rfl ?_
    refine rn_iload dX8_sourceOf_71 rfl ?_
    refine rn_iload_n dX8_sourceOf_73 rfl ?_
    refine rn_iconst (v := 2) dX8_sourceOf_74 rfl ?_
    refine rn_irem dX8_sourceOf_75 (by decide) ?_
    rw [show (2 : Int32) = nI 2 by decide, pk_rem (by omega) (by decide) (by decide), show (i * 2 + e) % 2 = e by omega]
    refine rn_callV dX8_sourceOf_76 cv_X8_110 (c_X5_makes (by omega)) rfl (h_node (by omega)) rfl rfl (by decide) (by decide) rfl (Nat.le_of_ble_eq_true rfl) ?_
    refine rn_if_eq (tgt := 86) dX8_sourceOf_79 rfl (fun q2 => ?_) (fun q2 => ?_)
    · rw [bI_0] at q2
      have hk : okC S s i e (nI a) f = false := by unfold okC; rw [show mkB S i f e = false from q2]; simp
      have hs0 : srcS j A (okC S s i e (nI a) f) (a * 2 + f) b = b := by unfold srcS; rw [if_neg (fun z => by rw [hk] at z; exact absurd z.1 (by decide))]
      rw [hs0] at K
      refine rn_iconst (v := 0) dX8_sourceOf_86 rfl ?_
      refine rn_istore dX8_sourceOf_87 (by decide) rfl ?_
      refine rn_iload dX8_sourceOf_89 rfl ?_
      refine rn_iconst (v := nI 2) dX8_sourceOf_91 (by decide) ?_
      refine rn_imul dX8_sourceOf_92 ?_
      refine rn_topi (nI_mul _ _) ?_
      refine rn_iload dX8_sourceOf_93 rfl ?_
      refine rn_iadd dX8_sourceOf_95 ?_
      refine rn_topi (nI_add _ _) ?_
      refine rn_istore dX8_sourceOf_96 (by decide) rfl ?_
      refine rn_iload dX8_sourceOf_98 rfl ?_
      refine rn_if_eq (tgt := 125) dX8_sourceOf_100 rfl (fun _ => ?_) (fun q => absurd (by decide) q)
      exact rn_subg rfl K
    · rw [bI_n] at q2
      have hk : okC S s i e (nI a) f = true := by unfold okC; rw [nI_clamp (by omega), show bitR (sA S 39) s a = true from q1, show mkB S i f e = true from q2, decide_eq_true hna]; rfl
      obtain ⟨hc32, hcv, hcd⟩ := hA hk
      refine rn_iconst (v := 1) dX8_sourceOf_82 rfl ?_
      refine rn_goto (tgt := 87) dX8_sourceOf_83 rfl ?_
      refine rn_istore dX8_sourceOf_87 (by decide) rfl ?_
      refine rn_iload dX8_sourceOf_89 rfl ?_
      refine rn_iconst (v := nI 2) dX8_sourceOf_91 (by decide) ?_
      refine rn_imul dX8_sourceOf_92 ?_
      refine rn_topi (nI_mul _ _) ?_
      refine rn_iload dX8_sourceOf_93 rfl ?_
      refine rn_iadd dX8_sourceOf_95 ?_
      refine rn_topi (nI_add _ _) ?_
      refine rn_istore dX8_sourceOf_96 (by decide) rfl ?_
      refine rn_iload dX8_sourceOf_98 rfl ?_
      refine rn_if_eq (tgt := 125) dX8_sourceOf_100 rfl (fun q => absurd q (by decide)) (fun _ => ?_)
      refine rn_iload dX8_sourceOf_103 rfl ?_
      refine rn_iconst (v := (-1)) dX8_sourceOf_105 rfl ?_
      refine rn_icmp_eq (tgt := 121) dX8_sourceOf_106 rfl (fun q3 => ?_) (fun q3 => ?_)
      · have hs0 : srcS j A (okC S s i e (nI a) f) (a * 2 + f) b = nI (a * 2 + f) := by unfold srcS; rw [if_pos ⟨hk, Or.inl q3⟩]
        rw [hs0] at K
        refine rn_iload dX8_sourceOf_121 rfl ?_
        refine rn_istore dX8_sourceOf_123 (by decide) rfl ?_
        exact rn_subg rfl K
      · obtain ⟨c0, hc0, rfl, hbv, hbd⟩ := hb.resolve_left q3
        refine rn_aload_n dX8_sourceOf_109 rfl ?_
        refine rn_iload_n dX8_sourceOf_110 rfl ?_
        refine rn_iload dX8_sourceOf_111 rfl ?_
        refine rn_iload dX8_sourceOf_113 rfl ?_
        refine rn_callV dX8_sourceOf_115 cv_X8_113 (c_X8_beats hj hs (by omega) (by omega) hcv hbv hcd hbd) rfl (h_tim (by omega)) rfl rfl (by decide) (by decide) rfl (Nat.le_of_ble_eq_true rfl) ?_
        refine rn_if_eq (tgt := 125) dX8_sourceOf_118 rfl (fun q4 => ?_) (fun q4 => ?_)
        · rw [bI_0] at q4
          have hs0 : srcS j A (okC S s i e (nI a) f) (a * 2 + f) (nI c0) = nI c0 := by unfold srcS; rw [nI_clamp (by omega), if_neg (fun z => z.2.elim q3 (of_decide_eq_false q4))]
          rw [hs0] at K
          exact rn_subg rfl K
        · rw [bI_n] at q4
          have hs0 : srcS j A (okC S s i e (nI a) f) (a * 2 + f) (nI c0) = nI (a * 2 + f) := by unfold srcS; rw [nI_clamp (by omega), if_pos ⟨hk, Or.inr (of_decide_eq_true q4)⟩]
          rw [hs0] at K
          refine rn_iload dX8_sourceOf_121 rfl ?_
          refine rn_istore dX8_sourceOf_123 (by decide) rfl ?_
          exact rn_subg rfl K
set_option maxRecDepth 20000 in
theorem lp_turn {j s i e : Nat} {A : Nat → Int} {v t b : Int32} {r : Option Value} {h' : j_H} (hj : j < 7) (hs : s < 16) (hi : i < 16) (he : e ≤ 1) (hv : v = -1 ∨ ∃ a, a < 16 ∧ v = nI a) (hb : okB S j s A b)
    (hA : ∀ f, f ≤ 1 → okC S s i e v f = true → v.toNatClampNeg * 2 + f < 32 ∧ sD S (5 * j + 50) (s * 32 + (v.toNatClampNeg * 2 + f)) = dv (A (v.toNatClampNeg * 2 + f)) ∧ dB (A (v.toNatClampNeg * 2 + f)))
    (K : Rn l D ad tc L xs mX8_sourceOf 1 27 131 [(5, .int t), (4, .int (srcS j A (okC S s i e v 1) (v.toNatClampNeg * 2 + 1) (srcS j A (okC S s i e v 0) (v.toNatClampNeg * 2 + 0) b))), (3, .ref (i + 14)), (0, .ref (5 * j + 50)), (1, .int (nI s)), (2, .int (nI (i * 2 + e)))] [] (wd S E, sl) r h') : Rn l D ad tc L xs mX8_sourceOf 1 27 45 [(7, .int 0), (6, .int v), (5, .int t), (4, .int b), (3, .ref (i + 14)), (0, .ref (5 * j + 50)), (1, .int (nI s)), (2, .int (nI (i * 2 + e)))] [] (wd S E, sl) r h' := by
  rcases hv with hv | ⟨a, ha, rfl⟩
  · have hk : ∀ f, okC S s i e v f = false := fun f => by unfold okC; rw [hv]; rfl
    have hs0 : ∀ f c b, srcS j A (okC S s i e v f) c b = b := fun f c b => by unfold srcS; rw [if_neg (fun z => by rw [hk] at z; exact absurd z.1 (by decide))]
    rw [hs0, hs0] at K
    refine rn_iload dX8_sourceOf_45 rfl ?_
    refine rn_iconst (v := 1) dX8_sourceOf_47 rfl ?_
    refine rn_icmp_gt (tgt := 131) dX8_sourceOf_48 rfl (fun q => absurd q (by decide)) (fun _ => ?_)
    refine rn_iload dX8_sourceOf_51 rfl ?_
    refine rn_iconst (v := (-1)) dX8_sourceOf_53 rfl ?_
    refine rn_icmp_eq (tgt := 131) dX8_sourceOf_54 rfl (fun _ => ?_) (fun q1 => absurd (by exact hv) q1)
    exact rn_subg rfl K
  · have hna : nI a ≠ -1 := fun z => by
      have := congrArg Int32.toInt z
      rw [nI_toInt (by omega), show (-1 : Int32).toInt = -1 by decide] at this
      omega
    rw [nI_clamp (by omega)] at hA K
    refine rn_iload dX8_sourceOf_45 rfl ?_
    refine rn_iconst (v := 1) dX8_sourceOf_47 rfl ?_
    refine rn_icmp_gt (tgt := 131) dX8_sourceOf_48 rfl (fun q => absurd q (by decide)) (fun _ => ?_)
    refine rn_iload dX8_sourceOf_51 rfl ?_
    refine rn_iconst (v := (-1)) dX8_sourceOf_53 rfl ?_
    refine rn_icmp_eq (tgt := 131) dX8_sourceOf_54 rfl (fun q1 => absurd q1 (by exact hna)) (fun _ => ?_)
    refine rn_subg (lv' := [(7, .int (nI 0)), (6, .int (nI a)), (5, .int t), (4, .int b), (3, .ref (i + 14)), (0, .ref (5 * j + 50)), (1, .int (nI s)), (2, .int (nI (i * 2 + e)))]) rfl (lp_src (A := A) hj hs hi he (by decide) ha hb (hA 0 (by decide)) ?_)
    refine rn_iinc (v := 1) dX8_sourceOf_125 rfl (by decide) (by decide) rfl ?_
    refine rn_goto (tgt := 45) dX8_sourceOf_128 rfl ?_
    refine rn_iload dX8_sourceOf_45 rfl ?_
    refine rn_iconst (v := 1) dX8_sourceOf_47 rfl ?_
    refine rn_icmp_gt (tgt := 131) dX8_sourceOf_48 rfl (fun q => absurd q (by decide)) (fun _ => ?_)
    refine rn_iload dX8_sourceOf_51 rfl ?_
    refine rn_iconst (v := (-1)) dX8_sourceOf_53 rfl ?_
    refine rn_icmp_eq (tgt := 131) dX8_sourceOf_54 rfl (fun q1 => absurd q1 (by exact hna)) (fun _ => ?_)
    refine rn_subg (lv' := [(7, .int (nI 1)), (6, .int (nI a)), (5, .int t), (4, .int (srcS j A (okC S s i e (nI a) 0) (a * 2 + 0) b)), (3, .ref (i + 14)), (0, .ref (5 * j + 50)), (1, .int (nI s)), (2, .int (nI (i * 2 + e)))]) rfl (lp_src (A := A) hj hs hi he (by decide) ha (okB_s hb (hA 0 (by decide))) (hA 1 (by decide)) ?_)
    refine rn_iinc (v := 2) dX8_sourceOf_125 rfl (by decide) (by decide) rfl ?_
    refine rn_goto (tgt := 45) dX8_sourceOf_128 rfl ?_
    refine rn_iload dX8_sourceOf_45 rfl ?_
    refine rn_iconst (v := 1) dX8_sourceOf_47 rfl ?_
    refine rn_icmp_gt (tgt := 131) dX8_sourceOf_48 rfl (fun _ => ?_) (fun q => absurd (by decide) q)
    exact rn_subg rfl K
set_option maxRecDepth 20000 in
theorem c_X8_sourceOf {j s i e : Nat} {A : Nat → Int} (hj : j < 7) (hs : s < 16) (hi : i < 16) (he : e ≤ 1) (hv1 : fe1 S i = -1 ∨ ∃ a, a < 16 ∧ fe1 S i = nI a) (hv2 : fe2 S i = -1 ∨ ∃ a, a < 16 ∧ fe2 S i = nI a) (hA : ∀ v, (v = fe1 S i ∨ v = fe2 S i) → ∀ f, f ≤ 1 → okC S s i e v f = true → v.toNatClampNeg * 2 + f < 32 ∧ sD S (5 * j + 50) (s * 32 + (v.toNatClampNeg * 2 + f)) = dv (A (v.toNatClampNeg * 2 + f)) ∧ dB (A (v.toNatClampNeg * 2 + f))) : Cn l D ad tc L xs mX8_sourceOf 1 27 [.ref (5 * j + 50), .int (nI s), .int (nI (i * 2 + e))] (wd S E, sl) (some (.int (mSrc S j A s i e))) (wd S E, sl) := by
  refine cn_of (lv0 := [(0, .ref (5 * j + 50)), (1, .int (nI s)), (2, .int (nI (i * 2 + e)))]) (by decide +kernel) ⟨_, rfl, rfl⟩ (fun _ => by simp [lg_sl, j_v, Value.category]) (fun _ => rfl) ?_
  have hb0 : okB S j s A (-1) := Or.inl rfl
  have hb1 : okB S j s A (srcS j A (okC S s i e (fe1 S i) 1) ((fe1 S i).toNatClampNeg * 2 + 1) (srcS j A (okC S s i e (fe1 S i) 0) ((fe1 S i).toNatClampNeg * 2 + 0) (-1))) := okB_s (okB_s hb0 (hA _ (Or.inl rfl) 0 (by decide))) (hA _ (Or.inl rfl) 1 (by decide))
  refine rn_aload_n dX8_sourceOf_0 rfl ?_
  refine rn_getfield dX8_sourceOf_1 fo_X8_24 (h_tim (by omega)) rfl ?_
  refine rn_getfield dX8_sourceOf_4 fo_X8_46 h_chip rfl ?_
  refine rn_iload_n dX8_sourceOf_7 rfl ?_
  refine rn_iconst (v := 2) dX8_sourceOf_8 rfl ?_
  refine rn_idiv dX8_sourceOf_9 (by decide) ?_
  rw [show (2 : Int32) = nI 2 by decide, pk_div (by omega) (by decide) (by decide), show (i * 2 + e) / 2 = i by omega]
  refine rn_aaload dX8_sourceOf_10 h_nodes rfl (vp_in_nI (by omega) (by decide)) (refs_at rfl (by omega) (by decide)) ?_
  refine rn_astore_n dX8_sourceOf_11 (by decide) rfl ?_
  refine rn_iconst (v := (-1)) dX8_sourceOf_12 rfl ?_
  refine rn_istore dX8_sourceOf_13 (by decide) rfl ?_
  refine rn_iconst (v := 0) dX8_sourceOf_15 rfl ?_
  refine rn_istore dX8_sourceOf_16 (by decide) rfl ?_
  refine rn_iload dX8_sourceOf_18 rfl ?_
  refine rn_iconst (v := 2) dX8_sourceOf_20 rfl ?_
  refine rn_icmp_ge (tgt := 137) dX8_sourceOf_21 rfl (fun q => absurd q (by decide)) (fun _ => ?_)
  refine rn_iload dX8_sourceOf_24 rfl ?_
  refine rn_if_ne (tgt := 36) dX8_sourceOf_26 rfl (fun q => absurd (by decide) q) (fun _ => ?_)
  refine rn_aload_n dX8_sourceOf_29 rfl ?_
  refine rn_getfield dX8_sourceOf_30 fo_X8_104 (h_node (by omega)) rfl ?_
  refine rn_goto (tgt := 40) dX8_sourceOf_33 rfl ?_
  refine rn_istore dX8_sourceOf_40 (by decide) rfl ?_
  refine rn_iconst (v := 0) dX8_sourceOf_42 rfl ?_
  refine rn_istore dX8_sourceOf_43 (by decide) rfl ?_
  refine rn_subg (lv' := [(7, .int 0), (6, .int (fe1 S i)), (5, .int 0), (4, .int (-1)), (3, .ref (i + 14)), (0, .ref (5 * j + 50)), (1, .int (nI s)), (2, .int (nI (i * 2 + e)))]) rfl (lp_turn (A := A) hj hs hi he hv1 hb0 (hA _ (Or.inl rfl)) ?_)
  refine rn_iinc (v := 1) dX8_sourceOf_131 rfl (by decide) (by decide) rfl ?_
  refine rn_goto (tgt := 18) dX8_sourceOf_134 rfl ?_
  refine rn_iload dX8_sourceOf_18 rfl ?_
  refine rn_iconst (v := 2) dX8_sourceOf_20 rfl ?_
  refine rn_icmp_ge (tgt := 137) dX8_sourceOf_21 rfl (fun q => absurd q (by decide)) (fun _ => ?_)
  refine rn_iload dX8_sourceOf_24 rfl ?_
  refine rn_if_ne (tgt := 36) dX8_sourceOf_26 rfl (fun _ => ?_) (fun q => absurd q (by decide))
  refine rn_aload_n dX8_sourceOf_36 rfl ?_
  refine rn_getfield dX8_sourceOf_37 fo_X8_107 (h_node (by omega)) rfl ?_
  refine rn_istore dX8_sourceOf_40 (by decide) rfl ?_
  refine rn_iconst (v := 0) dX8_sourceOf_42 rfl ?_
  refine rn_istore dX8_sourceOf_43 (by decide) rfl ?_
  refine rn_subg (lv' := [(7, .int 0), (6, .int (fe2 S i)), (5, .int 1), (4, .int (srcS j A (okC S s i e (fe1 S i) 1) ((fe1 S i).toNatClampNeg * 2 + 1) (srcS j A (okC S s i e (fe1 S i) 0) ((fe1 S i).toNatClampNeg * 2 + 0) (-1)))), (3, .ref (i + 14)), (0, .ref (5 * j + 50)), (1, .int (nI s)), (2, .int (nI (i * 2 + e)))]) rfl (lp_turn (A := A) hj hs hi he hv2 hb1 (hA _ (Or.inr rfl)) ?_)
  refine rn_iinc (v := 2) dX8_sourceOf_131 rfl (by decide) (by decide) rfl ?_
  refine rn_goto (tgt := 18) dX8_sourceOf_134 rfl ?_
  refine rn_iload dX8_sourceOf_18 rfl ?_
  refine rn_iconst (v := 2) dX8_sourceOf_20 rfl ?_
  refine rn_icmp_ge (tgt := 137) dX8_sourceOf_21 rfl (fun _ => ?_) (fun q => absurd (by decide) q)
  refine rn_iload dX8_sourceOf_137 rfl ?_
  exact rn_ret dX8_sourceOf_139 trivial rfl
end T3
