/-! Delays: reckon and prepare -/
def Tw (S : jS) (w : Nat → Nat) : Prop := ∀ i, i < 16 → w i ≤ 80 ∧ sF S (i + 13) 6 = fv (w i)
/-- what a node adds to its feeds' loads, in quarters -/
def own (S : jS) (k : Nat) : Nat := if kd S k = 8 then 8 else 2 * (sI S (k + 13) 5).toInt.toNat
def qLd (S : jS) (w : Nat → Nat) : Nat → Nat → Nat
  | 0, i => w i
  | k + 1, i => qLd S w k i + (if fe1 S k = nI i then own S k else 0) + (if fe2 S k = nI i then own S k else 0)
theorem own_r {S : jS} {k : Nat} (hz : sI S (k + 13) 5 = 1 ∨ sI S (k + 13) 5 = 2 ∨ sI S (k + 13) 5 = 4) : own S k ≤ 8 := by
  unfold own
  split
  · omega
  · rcases hz with hz | hz | hz <;> rw [hz] <;> decide
theorem qLd_r {S : jS} {w : Nat → Nat} (hz : ∀ i, i < 16 → sI S (i + 13) 5 = 1 ∨ sI S (i + 13) 5 = 2 ∨ sI S (i + 13) 5 = 4) (hw : ∀ i, i < 16 → w i ≤ 80) : ∀ k, k ≤ 16 → ∀ i, i < 16 → qLd S w k i ≤ 80 + 16 * k
  | 0, _, i, hi => hw i hi
  | k + 1, hk, i, hi => by
    have h1 := qLd_r hz hw k (by omega) i hi
    have h2 := own_r (hz k (by omega))
    unfold qLd
    split <;> split <;> omega
def LF (n : Nat) (F0 : Nat → UInt32) (q : Nat → Nat) : Nat → UInt32 := fun i => if i < n then fv (q i) else F0 i
def RD (S : jS) (q : Nat → Nat) (D0 : Nat → UInt64) (k : Nat) : Nat → UInt64 := fun i => if i < k then dv (32 * rho S i (q i)) else D0 i
theorem RD_s (S : jS) (q : Nat → Nat) (D0 : Nat → UInt64) (k : Nat) : vf_upd (RD S q D0 k) k (dv (32 * rho S k (q k))) = RD S q D0 (k + 1) := by
  funext i
  unfold vf_upd RD
  by_cases h : i = k
  · subst h
    rw [if_pos rfl, if_pos (by omega)]
  · rw [if_neg h]
    by_cases h2 : i < k
    · rw [if_pos h2, if_pos (by omega)]
    · rw [if_neg h2, if_neg (by omega)]
theorem pF_pF {S : jS} {k : Nat} {g1 g2 : Nat → UInt32} : pF (pF S k g1) k g2 = pF S k g2 := by
  unfold pF
  congr 4
  funext a
  by_cases h : a = k <;> simp [up1, h]
theorem pF_id {S : jS} {k : Nat} {g : Nat → UInt32} (h : g = S.2.2.2.1 k) : pF S k g = S := by
  subst h
  obtain ⟨a, b, c, d, e⟩ := S
  unfold pF
  congr 4
  funext x
  by_cases h : x = k <;> simp [up1, h]
theorem pD_pD {S : jS} {k : Nat} {g1 g2 : Nat → UInt64} : pD (pD S k g1) k g2 = pD S k g2 := by
  unfold pD
  congr 3
  funext a
  by_cases h : a = k <;> simp [up1, h]
theorem pD_id {S : jS} {k : Nat} {g : Nat → UInt64} (h : g = S.2.2.1 k) : pD S k g = S := by
  subst h
  obtain ⟨a, b, c, d⟩ := S
  unfold pD
  congr 3
  funext x
  by_cases h : x = k <;> simp [up1, h]
theorem pF_eq {S : jS} {k : Nat} {g : Nat → UInt32} : (pF S k g).2.2.2.1 k = g := if_pos rfl
theorem pD_eq {S : jS} {k : Nat} {g : Nat → UInt64} : (pD S k g).2.2.1 k = g := if_pos rfl
theorem LF_at {n i : Nat} {F0 : Nat → UInt32} {q : Nat → Nat} (h : i < n) : LF n F0 q i = fv (q i) := if_pos h
theorem nI_inj16 {a b : Nat} (ha : a < 16) (hb : b < 16) (h : nI a = nI b) : a = b := (nI_eq (by omega) (by omega)).mp h
section D3
variable {l : Launch} {D : va_G} {ad : Nat → Nat} {tc : Nat → ClassId} {L : Nat} {xs : Nat → Int32} {S : jS} {E : List j_C} {sl x : Nat}
set_option maxRecDepth 20000 in
theorem c_X4_burden {n o : Nat} {v : Int32} {q : Nat → Nat} {F0 : Nat → UInt32} (HX : x = 43 ∨ x = 46) (hN : sI S 1 6 = nI n) (hn : n ≤ 16) (hq : ∀ i, i < n → q i ≤ 900) (ho : o ≤ 8) : Cn l D ad tc L xs mX4_burden 1 21 [.ref (x + 1), .int v, .float (fv o)] (wd (pF S (x + 1) (LF n F0 q)) E, sl) none (wd (pF S (x + 1) (LF n F0 (fun i => q i + if v = nI i then o else 0))) E, sl) := by
  refine cn_of (lv0 := [(0, .ref (x + 1)), (1, .int v), (2, .float (fv o))]) (by decide +kernel) rfl (fun _ => by simp [lg_sl, j_v, Value.category]) (fun _ => rfl) ?_
  refine rn_aload_n dX4_burden_0 rfl ?_
  refine rn_getfield dX4_burden_1 fo_X4_19 (h_del HX) rfl ?_
  refine rn_iload_n dX4_burden_4 rfl ?_
  refine rn_callV dX4_burden_5 cv_X4_67 c_X1_hasNode rfl h_chip rfl rfl (by decide) (by decide) rfl (Nat.le_of_ble_eq_true rfl) ?_
  refine rn_if_eq (tgt := 21) dX4_burden_8 rfl (fun q1 => ?_) (fun q1 => ?_)
  · rw [bI_0, decide_eq_false_iff_not] at q1
    replace q1 : ¬ (0 ≤ v ∧ v < sI S 1 6) := q1
    rw [hN] at q1
    refine rn_eq (congrArg (fun z => (wd (pF S (x + 1) z) E, sl)) (funext fun i => ?_)) (rn_ret dX4_burden_21 trivial rfl)
    unfold LF
    by_cases hi : i < n
    · rw [if_pos hi, if_pos hi]
      show fv ((q i : Nat) : Int) = fv (((q i + if v = nI i then o else 0) : Nat) : Int)
      rw [if_neg (fun z => q1 (by subst z; exact ⟨Int32.not_lt.mp (nI_pos (by omega)), nI_lt hi (by omega)⟩)), Nat.add_zero]
    · rw [if_neg hi, if_neg hi]
  · rw [bI_n, decide_eq_true_eq] at q1
    replace q1 : 0 ≤ v ∧ v < sI S 1 6 := q1
    rw [hN] at q1
    obtain ⟨f, hf, rfl⟩ := nI_below q1.1 q1.2 (by omega)
    have hqf := hq f hf
    refine rn_aload_n dX4_burden_11 rfl ?_
    refine rn_getfield dX4_burden_12 fo_X4_9 (h_del HX) rfl ?_
    refine rn_iload_n dX4_burden_15 rfl ?_
    refine rn_dup2 dX4_burden_16 rfl rfl ?_
    refine rn_faload dX4_burden_17 (h_loads HX) rfl (vp_in_nI (by omega) (by decide)) ?_
    rw [nI_clamp (by omega)]
    rw [show sF (pF S (x + 1) (LF n F0 q)) (x + 1) f = fv (q f) by rw [show sF (pF S (x + 1) (LF n F0 q)) (x + 1) = LF n F0 q from pF_eq]; exact LF_at hf]
    refine rn_fload_n dX4_burden_18 rfl ?_
    refine rn_fadd dX4_burden_19 (by rw [fv_add (by unfold fB; omega) (by unfold fB; omega)]; exact fv_n _) ?_
    refine rn_topf (fv_add (by unfold fB; omega) (by unfold fB; omega)) ?_
    refine rn_pF (a := x + 1) (n := 16) dX4_burden_20 (by omega) (by rcases HX with rfl | rfl <;> rfl) (by rcases HX with rfl | rfl <;> exact fun _ => rfl) (vp_in_nI (by omega) (by decide)) ?_
    rw [nI_clamp (by omega)]
    refine rn_eq (congrArg (fun z => (wd z E, sl)) ?_) (rn_ret dX4_burden_21 trivial rfl)
    rw [pF_pF, show (pF S (x + 1) (LF n F0 q)).2.2.2.1 (x + 1) = LF n F0 q from pF_eq]
    congr 1
    funext i
    unfold vf_upd LF
    by_cases hi : i = f
    · subst hi
      rw [if_pos rfl, if_pos hf]
      show fv _ = fv (((q i + if nI i = nI i then o else 0) : Nat) : Int)
      rw [if_pos rfl, Int.natCast_add]
    · rw [if_neg hi]
      by_cases h2 : i < n
      · rw [if_pos h2, if_pos h2]
        show fv ((q i : Nat) : Int) = fv (((q i + if nI f = nI i then o else 0) : Nat) : Int)
        rw [if_neg (fun z => hi ((nI_eq (by omega) (by omega)).mp z.symm)), Nat.add_zero]
      · rw [if_neg h2, if_neg h2]
set_option maxRecDepth 20000 in
theorem lp_X4_reckon3 {F0 : Nat → UInt32} {D0 : Nat → UInt64} {n nr nc nk : Nat} {w : Nat → Nat} (HX : x = 43 ∨ x = 46) (hT : Told S n nr nc nk) (hw : Tw S w) : ∀ j k : Nat, k + j = n → Rn l D ad tc L xs mX4_reckon 2 45 108 [(1, .int (nI k)), (0, .ref (x + 1))] [] (wd (pD (pF S (x + 1) (LF n F0 (qLd S w n))) (x + 2) (RD S (qLd S w n) D0 k)) E, sl) none (wd (pD (pF S (x + 1) (LF n F0 (qLd S w n))) (x + 2) (RD S (qLd S w n) D0 n)) E, sl) := by
  obtain ⟨⟨hN, hn⟩, -, -, -, hv, hnd, hsz, -, -, -⟩ := id hT
  intro j
  induction j with
  | zero =>
    intro k hk
    have hk' : n = k := by omega
    subst hk'
    have hN1 := hN
    refine rn_iload_n dX4_reckon_108 rfl ?_
    refine rn_aload_n dX4_reckon_109 rfl ?_
    refine rn_getfield dX4_reckon_110 fo_X4_19 (h_del HX) rfl ?_
    refine rn_getfield dX4_reckon_113 fo_X4_30 h_chip rfl ?_
    refine rn_topi hN1 ?_
    refine rn_icmp_ge (tgt := 150) dX4_reckon_116 rfl (fun _ => ?_) (fun q1 => absurd (by exact Int32.le_refl _) q1)
    exact rn_ret dX4_reckon_150 trivial rfl
  | succ j ih =>
    intro k hk
    have hN1 := hN
    have ih := ih (k + 1) (by omega)
    have hqk := qLd_r (fun i hi => (hsz i hi).1) (fun i hi => (hw i hi).1) n hn k (by omega)
    refine rn_iload_n dX4_reckon_108 rfl ?_
    refine rn_aload_n dX4_reckon_109 rfl ?_
    refine rn_getfield dX4_reckon_110 fo_X4_19 (h_del HX) rfl ?_
    refine rn_getfield dX4_reckon_113 fo_X4_30 h_chip rfl ?_
    refine rn_topi hN1 ?_
    refine rn_icmp_ge (tgt := 150) dX4_reckon_116 rfl (fun q1 => absurd q1 (by rw [Int32.le_iff_toInt_le, nI_toInt (by omega), nI_toInt (by omega)] at q1; omega)) (fun _ => ?_)
    refine rn_aload_n dX4_reckon_119 rfl ?_
    refine rn_getfield dX4_reckon_120 fo_X4_15 (h_del HX) rfl ?_
    refine rn_iload_n dX4_reckon_123 rfl ?_
    refine rn_aload_n dX4_reckon_124 rfl ?_
    refine rn_getfield dX4_reckon_125 fo_X4_19 (h_del HX) rfl ?_
    refine rn_getfield dX4_reckon_128 fo_X4_36 h_chip rfl ?_
    refine rn_iload_n dX4_reckon_131 rfl ?_
    refine rn_aaload dX4_reckon_132 h_nodes rfl (vp_in_nI (by omega) (by decide)) (refs_at rfl (by omega) (by decide)) ?_
    refine rn_aload_n dX4_reckon_133 rfl ?_
    refine rn_getfield dX4_reckon_134 fo_X4_9 (h_del HX) rfl ?_
    refine rn_iload_n dX4_reckon_137 rfl ?_
    refine rn_faload dX4_reckon_138 (h_loads HX) rfl (vp_in_nI (by omega) (by decide)) ?_
    rw [nI_clamp (by omega)]
    rw [show sF (pD (pF S (x + 1) (LF n F0 (qLd S w n))) (x + 2) (RD S (qLd S w n) D0 k)) (x + 1) k = fv (qLd S w n k) by rw [show sF (pD (pF S (x + 1) (LF n F0 (qLd S w n))) (x + 2) (RD S (qLd S w n) D0 k)) (x + 1) = LF n F0 (qLd S w n) from pF_eq]; exact LF_at (by omega)]
    refine rn_f2d dX4_reckon_139 (by rw [f2d_dv (by unfold fB; omega)]; exact dv_n _) ?_
    refine rn_topd (y := dv (1024 * (qLd S w n k : Nat))) (by rw [f2d_dv (by unfold fB; omega), Int.mul_comm]) ?_
    refine rn_callS dX4_reckon_140 cs_X4_63 (c_X4_riseOf (by omega) (by omega) (hsz k (by omega)).1) rfl (by decide) (by decide) rfl (Nat.le_of_ble_eq_true rfl) ?_
    refine rn_pD (a := x + 2) (n := 16) dX4_reckon_143 (by omega) (by rcases HX with rfl | rfl <;> rfl) (by rcases HX with rfl | rfl <;> exact fun _ => rfl) (vp_in_nI (by omega) (by decide)) ?_
    rw [nI_clamp (by omega)]
    refine rn_eq (h2 := (wd (pD (pF S (x + 1) (LF n F0 (qLd S w n))) (x + 2) (RD S (qLd S w n) D0 (k + 1))) E, sl)) (congrArg (fun z => (wd z E, sl)) (by rw [pD_pD, show (pD (pF S (x + 1) (LF n F0 (qLd S w n))) (x + 2) (RD S (qLd S w n) D0 k)).2.2.1 (x + 2) = RD S (qLd S w n) D0 k from pD_eq]; exact congrArg _ (RD_s S _ D0 k))) ?_
    refine rn_iinc dX4_reckon_144 rfl (nI_1 _) (by decide) rfl ?_
    refine rn_goto (tgt := 108) dX4_reckon_147 rfl ?_
    exact rn_subg rfl ih
def sDel (S : jS) (w : Nat → Nat) (n x : Nat) : jS := pD (pF S (x + 1) (LF n (sF S (x + 1)) (qLd S w n))) (x + 2) (RD S (qLd S w n) (sD S (x + 2)) n)
theorem LF_s (k : Nat) (F0 : Nat → UInt32) (w : Nat → Nat) : vf_upd (LF k F0 w) k (fv (w k)) = LF (k + 1) F0 w := by
  funext i
  unfold vf_upd LF
  by_cases h : i = k
  · subst h
    rw [if_pos rfl, if_pos (by omega)]
  · rw [if_neg h]
    by_cases h2 : i < k
    · rw [if_pos h2, if_pos (by omega)]
    · rw [if_neg h2, if_neg (by omega)]
theorem LF_0 (F0 : Nat → UInt32) (w : Nat → Nat) : LF 0 F0 w = F0 := by
  funext i
  simp [LF]
theorem RD_0 (S : jS) (q : Nat → Nat) (D0 : Nat → UInt64) : RD S q D0 0 = D0 := by
  funext i
  simp [RD]
set_option maxRecDepth 20000 in
theorem lp_X4_reckon2 {n nr nc nk : Nat} {w : Nat → Nat} (HX : x = 43 ∨ x = 46) (hT : Told S n nr nc nk) (hw : Tw S w) : ∀ j k : Nat, k + j = n → Rn l D ad tc L xs mX4_reckon 2 45 39 [(1, .int (nI k)), (0, .ref (x + 1))] [] (wd (pF S (x + 1) (LF n (sF S (x + 1)) (qLd S w k))) E, sl) none (wd (sDel S w n x) E, sl) := by
  obtain ⟨⟨hN, hn⟩, -, -, -, hv, hnd, hsz, -, -, -⟩ := id hT
  intro j
  induction j with
  | zero =>
    intro k hk
    have hk' : n = k := by omega
    subst hk'
    have hN1 := hN
    refine rn_iload_n dX4_reckon_39 rfl ?_
    refine rn_aload_n dX4_reckon_40 rfl ?_
    refine rn_getfield dX4_reckon_41 fo_X4_19 (h_del HX) rfl ?_
    refine rn_getfield dX4_reckon_44 fo_X4_30 h_chip rfl ?_
    refine rn_topi hN1 ?_
    refine rn_icmp_ge (tgt := 106) dX4_reckon_47 rfl (fun _ => ?_) (fun q1 => absurd (by exact Int32.le_refl _) q1)
    refine rn_iconst (v := 0) dX4_reckon_106 rfl ?_
    refine rn_istore_n dX4_reckon_107 (by decide) rfl ?_
    refine rn_eq (h2 := (wd (pD (pF S (x + 1) (LF n (sF S (x + 1)) (qLd S w n))) (x + 2) (RD S (qLd S w n) (sD S (x + 2)) 0)) E, sl)) (congrArg (fun z => (wd z E, sl)) (by rw [RD_0]; exact (pD_id rfl).symm)) ?_
    exact rn_subg rfl (lp_X4_reckon3 HX hT hw n 0 (by omega))
  | succ j ih =>
    intro k hk
    have hN1 := hN
    have ih := ih (k + 1) (by omega)
    have hzk := (hsz k (by omega)).1
    have hown8 := own_r hzk
    have hown2 : ¬ kd S k = 8 → FP.fmul 1056964608 (FP.i2f (sI S (k + 13) 5)) = fv (own S k) := fun q => by
      unfold own
      rw [if_neg q]
      rcases hzk with hz | hz | hz <;> rw [hz]
      · rw [fv_halves 1 (by unfold fB; decide) (by decide)]; rfl
      · rw [fv_halves 2 (by unfold fB; decide) (by decide)]; rfl
      · rw [fv_halves 4 (by unfold fB; decide) (by decide)]; rfl
    refine rn_iload_n dX4_reckon_39 rfl ?_
    refine rn_aload_n dX4_reckon_40 rfl ?_
    refine rn_getfield dX4_reckon_41 fo_X4_19 (h_del HX) rfl ?_
    refine rn_getfield dX4_reckon_44 fo_X4_30 h_chip rfl ?_
    refine rn_topi hN1 ?_
    refine rn_icmp_ge (tgt := 106) dX4_reckon_47 rfl (fun q1 => absurd q1 (by rw [Int32.le_iff_toInt_le, nI_toInt (by omega), nI_toInt (by omega)] at q1; omega)) (fun _ => ?_)
    refine rn_aload_n dX4_reckon_50 rfl ?_
    refine rn_getfield dX4_reckon_51 fo_X4_19 (h_del HX) rfl ?_
    refine rn_getfield dX4_reckon_54 fo_X4_36 h_chip rfl ?_
    refine rn_iload_n dX4_reckon_57 rfl ?_
    refine rn_aaload dX4_reckon_58 h_nodes rfl (vp_in_nI (by omega) (by decide)) (refs_at rfl (by omega) (by decide)) ?_
    refine rn_astore_n dX4_reckon_59 (by decide) rfl ?_
    refine rn_aload_n dX4_reckon_60 rfl ?_
    refine rn_getfield dX4_reckon_61 fo_X4_46 (h_node (by omega)) rfl ?_
    refine rn_bipush (v := 8) dX4_reckon_64 rfl ?_
    refine rn_icmp_ne (tgt := 73) dX4_reckon_66 rfl (fun q2 => ?_) (fun q2 => ?_)
    · replace q2 : ¬ kd S k = 8 := q2
      refine rn_ldcf dX4_reckon_73 wd_164 ?_
      refine rn_aload_n dX4_reckon_75 rfl ?_
      refine rn_getfield dX4_reckon_76 fo_X4_50 (h_node (by omega)) rfl ?_
      refine rn_i2f dX4_reckon_79 ?_
      refine rn_fmul dX4_reckon_80 (by show vf_n32 (FP.fmul 1056964608 (FP.i2f (sI S (k + 13) 5))); rw [hown2 q2]; exact fv_n _) ?_
      have hown := hown2 q2
      refine rn_topf (y := fv (own S k)) hown ?_
      refine rn_fstore_n dX4_reckon_81 (by decide) rfl ?_
      refine rn_aload_n dX4_reckon_82 rfl ?_
      refine rn_aload_n dX4_reckon_83 rfl ?_
      refine rn_getfield dX4_reckon_84 fo_X4_53 (h_node (by omega)) rfl ?_
      refine rn_fload_n dX4_reckon_87 rfl ?_
      refine rn_callV dX4_reckon_88 cv_X4_56 (c_X4_burden (S := S) (q := qLd S w k) HX hN hn (fun i hi => by have := qLd_r (fun i hi => (hsz i hi).1) (fun i hi => (hw i hi).1) k (by omega) i (by omega); omega) hown8) rfl (h_del HX) rfl rfl (by decide) (by decide) rfl (Nat.le_of_ble_eq_true rfl) ?_
      refine rn_aload_n dX4_reckon_91 rfl ?_
      refine rn_aload_n dX4_reckon_92 rfl ?_
      refine rn_getfield dX4_reckon_93 fo_X4_60 (h_node (by omega)) rfl ?_
      refine rn_fload_n dX4_reckon_96 rfl ?_
      refine rn_callV dX4_reckon_97 cv_X4_56 (c_X4_burden (S := S) (q := fun i => qLd S w k i + if fe1 S k = nI i then own S k else 0) HX hN hn (fun i hi => by have := qLd_r (fun i hi => (hsz i hi).1) (fun i hi => (hw i hi).1) k (by omega) i (by omega); show qLd S w k i + (if fe1 S k = nI i then own S k else 0) ≤ 900; split <;> omega) hown8) rfl (h_del HX) rfl rfl (by decide) (by decide) rfl (Nat.le_of_ble_eq_true rfl) ?_
      refine rn_eq (h2 := (wd (pF S (x + 1) (LF n (sF S (x + 1)) (qLd S w (k + 1)))) E, sl)) rfl ?_
      refine rn_iinc dX4_reckon_100 rfl (nI_1 _) (by decide) rfl ?_
      refine rn_goto (tgt := 39) dX4_reckon_103 rfl ?_
      exact rn_subg rfl ih
    · replace q2 : kd S k = 8 := q2
      have hown : FP.fconst2 = fv (own S k) := by unfold own; rw [if_pos q2, fv_2]; rfl
      refine rn_fconst2 dX4_reckon_69 ?_
      refine rn_goto (tgt := 81) dX4_reckon_70 rfl ?_
      refine rn_topf (y := fv (own S k)) hown ?_
      refine rn_fstore_n dX4_reckon_81 (by decide) rfl ?_
      refine rn_aload_n dX4_reckon_82 rfl ?_
      refine rn_aload_n dX4_reckon_83 rfl ?_
      refine rn_getfield dX4_reckon_84 fo_X4_53 (h_node (by omega)) rfl ?_
      refine rn_fload_n dX4_reckon_87 rfl ?_
      refine rn_callV dX4_reckon_88 cv_X4_56 (c_X4_burden (S := S) (q := qLd S w k) HX hN hn (fun i hi => by have := qLd_r (fun i hi => (hsz i hi).1) (fun i hi => (hw i hi).1) k (by omega) i (by omega); omega) hown8) rfl (h_del HX) rfl rfl (by decide) (by decide) rfl (Nat.le_of_ble_eq_true rfl) ?_
      refine rn_aload_n dX4_reckon_91 rfl ?_
      refine rn_aload_n dX4_reckon_92 rfl ?_
      refine rn_getfield dX4_reckon_93 fo_X4_60 (h_node (by omega)) rfl ?_
      refine rn_fload_n dX4_reckon_96 rfl ?_
      refine rn_callV dX4_reckon_97 cv_X4_56 (c_X4_burden (S := S) (q := fun i => qLd S w k i + if fe1 S k = nI i then own S k else 0) HX hN hn (fun i hi => by have := qLd_r (fun i hi => (hsz i hi).1) (fun i hi => (hw i hi).1) k (by omega) i (by omega); show qLd S w k i + (if fe1 S k = nI i then own S k else 0) ≤ 900; split <;> omega) hown8) rfl (h_del HX) rfl rfl (by decide) (by decide) rfl (Nat.le_of_ble_eq_true rfl) ?_
      refine rn_eq (h2 := (wd (pF S (x + 1) (LF n (sF S (x + 1)) (qLd S w (k + 1)))) E, sl)) rfl ?_
      refine rn_iinc dX4_reckon_100 rfl (nI_1 _) (by decide) rfl ?_
      refine rn_goto (tgt := 39) dX4_reckon_103 rfl ?_
      exact rn_subg rfl ih
set_option maxRecDepth 20000 in
theorem lp_X4_reckon1 {n nr nc nk : Nat} {w : Nat → Nat} (HX : x = 43 ∨ x = 46) (hT : Told S n nr nc nk) (hw : Tw S w) : ∀ j k : Nat, k + j = n → Rn l D ad tc L xs mX4_reckon 2 45 2 [(1, .int (nI k)), (0, .ref (x + 1))] [] (wd (pF S (x + 1) (LF k (sF S (x + 1)) w)) E, sl) none (wd (sDel S w n x) E, sl) := by
  obtain ⟨⟨hN, hn⟩, -, -, -, hv, hnd, hsz, -, -, -⟩ := id hT
  intro j
  induction j with
  | zero =>
    intro k hk
    have hk' : n = k := by omega
    subst hk'
    have hN1 := hN
    refine rn_iload_n dX4_reckon_2 rfl ?_
    refine rn_aload_n dX4_reckon_3 rfl ?_
    refine rn_getfield dX4_reckon_4 fo_X4_19 (h_del HX) rfl ?_
    refine rn_getfield dX4_reckon_7 fo_X4_30 h_chip rfl ?_
    refine rn_topi hN1 ?_
    refine rn_icmp_ge (tgt := 37) dX4_reckon_10 rfl (fun _ => ?_) (fun q1 => absurd (by exact Int32.le_refl _) q1)
    refine rn_iconst (v := 0) dX4_reckon_37 rfl ?_
    refine rn_istore_n dX4_reckon_38 (by decide) rfl ?_
    exact rn_subg rfl (lp_X4_reckon2 HX hT hw n 0 (by omega))
  | succ j ih =>
    intro k hk
    have hN1 := hN
    have ih := ih (k + 1) (by omega)
    refine rn_iload_n dX4_reckon_2 rfl ?_
    refine rn_aload_n dX4_reckon_3 rfl ?_
    refine rn_getfield dX4_reckon_4 fo_X4_19 (h_del HX) rfl ?_
    refine rn_getfield dX4_reckon_7 fo_X4_30 h_chip rfl ?_
    refine rn_topi hN1 ?_
    refine rn_icmp_ge (tgt := 37) dX4_reckon_10 rfl (fun q1 => absurd q1 (by rw [Int32.le_iff_toInt_le, nI_toInt (by omega), nI_toInt (by omega)] at q1; omega)) (fun _ => ?_)
    refine rn_aload_n dX4_reckon_13 rfl ?_
    refine rn_getfield dX4_reckon_14 fo_X4_9 (h_del HX) rfl ?_
    refine rn_iload_n dX4_reckon_17 rfl ?_
    refine rn_aload_n dX4_reckon_18 rfl ?_
    refine rn_getfield dX4_reckon_19 fo_X4_19 (h_del HX) rfl ?_
    refine rn_getfield dX4_reckon_22 fo_X4_36 h_chip rfl ?_
    refine rn_iload_n dX4_reckon_25 rfl ?_
    refine rn_aaload dX4_reckon_26 h_nodes rfl (vp_in_nI (by omega) (by decide)) (refs_at rfl (by omega) (by decide)) ?_
    refine rn_getfield dX4_reckon_27 fo_X4_40 (h_node (by omega)) rfl ?_
    refine rn_topf (y := fv (w k)) (by rw [show sF (pF S (x + 1) (LF k (sF S (x + 1)) w)) (k + 13) = sF S (k + 13) from up1_ne _ _ (by omega)]; exact (hw k (by omega)).2) ?_
    refine rn_pF (a := x + 1) (n := 16) dX4_reckon_30 (by omega) (by rcases HX with rfl | rfl <;> rfl) (by rcases HX with rfl | rfl <;> exact fun _ => rfl) (vp_in_nI (by omega) (by decide)) ?_
    rw [nI_clamp (by omega)]
    refine rn_eq (h2 := (wd (pF S (x + 1) (LF (k + 1) (sF S (x + 1)) w)) E, sl)) (congrArg (fun z => (wd z E, sl)) (by rw [pF_pF, show (pF S (x + 1) (LF k (sF S (x + 1)) w)).2.2.2.1 (x + 1) = LF k (sF S (x + 1)) w from pF_eq, LF_s])) ?_
    refine rn_iinc dX4_reckon_31 rfl (nI_1 _) (by decide) rfl ?_
    refine rn_goto (tgt := 2) dX4_reckon_34 rfl ?_
    exact rn_subg rfl ih
set_option maxRecDepth 20000 in
theorem c_X4_reckon {n nr nc nk : Nat} {w : Nat → Nat} (HX : x = 43 ∨ x = 46) (hT : Told S n nr nc nk) (hw : Tw S w) : Cn l D ad tc L xs mX4_reckon 2 45 [.ref (x + 1)] (wd S E, sl) none (wd (sDel S w n x) E, sl) := by
  refine cn_of (lv0 := [(0, .ref (x + 1))]) (by decide +kernel) rfl (fun _ => by simp [lg_sl, j_v, Value.category]) (fun _ => rfl) ?_
  refine rn_iconst (v := 0) dX4_reckon_0 rfl ?_
  refine rn_istore_n dX4_reckon_1 (by decide) rfl ?_
  refine rn_eq (h2 := (wd (pF S (x + 1) (LF 0 (sF S (x + 1)) w)) E, sl)) (congrArg (fun z => (wd z E, sl)) (by rw [LF_0]; exact (pF_id rfl).symm)) ?_
  exact rn_subg rfl (lp_X4_reckon1 HX hT hw n 0 (by omega))
theorem cc_del {S : jS} {x : Nat} (h : x = 43 ∨ x = 46) : cc S x = .inr (4, [.ref 2, .ref (x + 2), .ref (x + 3), .int (sI S x 3)]) := by rcases h with rfl | rfl <;> rfl
theorem cc_delI {S : jS} {x : Nat} {v : Int32} (h : x = 43 ∨ x = 46) : cc (pI S x 3 v) x = .inr (4, [.ref 2, .ref (x + 2), .ref (x + 3), .int (sI S x 3)].set 3 (.int v)) := by rcases h with rfl | rfl <;> rfl
def sDelays (S : jS) (w : Nat → Nat) (n x : Nat) : jS := if sI S x 3 = 0 then pI (sDel S w n x) x 3 1 else S
set_option maxRecDepth 20000 in
theorem c_X4_prepare {n nr nc nk : Nat} {w : Nat → Nat} (HX : x = 43 ∨ x = 46) (hT : Told S n nr nc nk) (hw : Tw S w) : Cn l D ad tc L xs mX4_prepare 3 68 [.ref (x + 1)] (wd S E, sl) none (wd (sDelays S w n x) E, sl) := by
  refine cn_of (lv0 := [(0, .ref (x + 1))]) (by decide +kernel) rfl (fun _ => by simp [lg_sl, j_v, Value.category]) (fun _ => rfl) ?_
  refine rn_aload_n dX4_prepare_0 rfl ?_
  refine rn_getfield dX4_prepare_1 fo_X4_23 (h_del HX) rfl ?_
  refine rn_if_ne (tgt := 16) dX4_prepare_4 rfl (fun q1 => ?_) (fun q1 => ?_)
  · exact rn_eq (by unfold sDelays; rw [if_neg q1]) (rn_ret dX4_prepare_16 trivial rfl)
  · refine rn_aload_n dX4_prepare_7 rfl ?_
    refine rn_callV dX4_prepare_8 cv_X4_27 (c_X4_reckon HX hT hw) rfl (h_del HX) rfl rfl (by decide) (by decide) rfl (Nat.le_of_ble_eq_true rfl) ?_
    refine rn_aload_n dX4_prepare_11 rfl ?_
    refine rn_iconst (v := 1) dX4_prepare_12 rfl ?_
    refine rn_pI (a := x) dX4_prepare_13 fp_X4_23 (by omega) (cc_del HX) (cc_delI HX) (by simp) ⟨rfl, rfl⟩ ⟨_, _, _, rfl, rfl⟩ ?_
    exact rn_eq (by unfold sDelays; rw [if_pos (q1)]) (rn_ret dX4_prepare_16 trivial rfl)
end D3
