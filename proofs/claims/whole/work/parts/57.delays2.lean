/-! Delays: reckon and prepare -/
def Tw (S : jS) (w : Nat → Nat) : Prop := ∀ i, i < 16 → w i ≤ 80 ∧ sF S (i + 13) 6 = fv (w i)
/-- what a node adds to its feeds' loads, in quarters -/
def own (S : jS) (k : Nat) : Nat := if kd S k = 8 then 8 else 2 * (sI S (k + 13) 5).toInt.toNat
def qLd (S : jS) (w : Nat → Nat) : Nat → Nat → Nat
  | 0, i => w i
  | k + 1, i => qLd S w k i + (if fe1 S k = nI i then own S k else 0) + (if fe2 S k = nI i then own S k else 0)
theorem own_r {S : jS} {k : Nat} (hz : sI S (k + 13) 5 = 1 ∨ sI S (k + 13) 5 = 2 ∨ sI S (k + 13) 5 = 4) : own S k ≤ 8 := by
  unfold own
  split
  · omega
  · rcases hz with hz | hz | hz <;> rw [hz] <;> decide
theorem qLd_r {S : jS} {w : Nat → Nat} (hz : ∀ i, i < 16 → sI S (i + 13) 5 = 1 ∨ sI S (i + 13) 5 = 2 ∨ sI S (i + 13) 5 = 4) (hw : ∀ i, i < 16 → w i ≤ 80) : ∀ k, k ≤ 16 → ∀ i, i < 16 → qLd S w k i ≤ 80 + 16 * k
  | 0, _, i, hi => hw i hi
  | k + 1, hk, i, hi => by
    have h1 := qLd_r hz hw k (by omega) i hi
    have h2 := own_r (hz k (by omega))
    unfold qLd
    split <;> split <;> omega
def LF (n : Nat) (F0 : Nat → UInt32) (q : Nat → Nat) : Nat → UInt32 := fun i => if i < n then fv (q i) else F0 i
def RD (S : jS) (q : Nat → Nat) (D0 : Nat → UInt64) (k : Nat) : Nat → UInt64 := fun i => if i < k then dv (32 * rho S i (q i)) else D0 i
theorem pF_pF {S : jS} {k : Nat} {g1 g2 : Nat → UInt32} : pF (pF S k g1) k g2 = pF S k g2 := by
  unfold pF
  congr 4
  funext a
  by_cases h : a = k <;> simp [up1, h]
theorem pF_id {S : jS} {k : Nat} {g : Nat → UInt32} (h : g = S.2.2.2.1 k) : pF S k g = S := by
  subst h
  obtain ⟨a, b, c, d, e⟩ := S
  unfold pF
  congr 4
  funext x
  by_cases h : x = k <;> simp [up1, h]
theorem pD_pD {S : jS} {k : Nat} {g1 g2 : Nat → UInt64} : pD (pD S k g1) k g2 = pD S k g2 := by
  unfold pD
  congr 3
  funext a
  by_cases h : a = k <;> simp [up1, h]
theorem pD_id {S : jS} {k : Nat} {g : Nat → UInt64} (h : g = S.2.2.1 k) : pD S k g = S := by
  subst h
  obtain ⟨a, b, c, d⟩ := S
  unfold pD
  congr 3
  funext x
  by_cases h : x = k <;> simp [up1, h]
theorem pF_eq {S : jS} {k : Nat} {g : Nat → UInt32} : (pF S k g).2.2.2.1 k = g := if_pos rfl
theorem pD_eq {S : jS} {k : Nat} {g : Nat → UInt64} : (pD S k g).2.2.1 k = g := if_pos rfl
theorem LF_at {n i : Nat} {F0 : Nat → UInt32} {q : Nat → Nat} (h : i < n) : LF n F0 q i = fv (q i) := if_pos h
theorem nI_inj16 {a b : Nat} (ha : a < 16) (hb : b < 16) (h : nI a = nI b) : a = b := (nI_eq (by omega) (by omega)).mp h
section D3
variable {l : Launch} {D : va_G} {ad : Nat → Nat} {tc : Nat → ClassId} {L : Nat} {xs : Nat → Int32} {S : jS} {E : List j_C} {sl x : Nat}
set_option maxRecDepth 20000 in
theorem c_X4_burden {n o : Nat} {v : Int32} {q : Nat → Nat} {F0 : Nat → UInt32} (HX : x = 43 ∨ x = 46) (hN : sI S 1 6 = nI n) (hn : n ≤ 16) (hq : ∀ i, i < n → q i ≤ 900) (ho : o ≤ 8) : Cn l D ad tc L xs mX4_burden 1 21 [.ref (x + 1), .int v, .float (fv o)] (wd (pF S (x + 1) (LF n F0 q)) E, sl) none (wd (pF S (x + 1) (LF n F0 (fun i => q i + if v = nI i then o else 0))) E, sl) := by
  refine cn_of (lv0 := [(0, .ref (x + 1)), (1, .int v), (2, .float (fv o))]) (by decide +kernel) rfl (fun _ => by simp [lg_sl, j_v, Value.category]) (fun _ => rfl) ?_
  refine rn_aload_n dX4_burden_0 rfl ?_
  refine rn_getfield dX4_burden_1 fo_X4_19 (h_del HX) rfl ?_
  refine rn_iload_n dX4_burden_4 rfl ?_
  refine rn_callV dX4_burden_5 cv_X4_67 c_X1_hasNode rfl h_chip rfl rfl (by decide) (by decide) rfl (Nat.le_of_ble_eq_true rfl) ?_
  refine rn_if_eq (tgt := 21) dX4_burden_8 rfl (fun q1 => ?_) (fun q1 => ?_)
  · rw [bI_0, decide_eq_false_iff_not] at q1
    replace q1 : ¬ (0 ≤ v ∧ v < sI S 1 6) := q1
    rw [hN] at q1
    refine rn_eq (congrArg (fun z => (wd (pF S (x + 1) z) E, sl)) (funext fun i => ?_)) (rn_ret dX4_burden_21 trivial rfl)
    unfold LF
    by_cases hi : i < n
    · rw [if_pos hi, if_pos hi, if_neg (fun z => q1 (by subst z; exact ⟨Int32.not_lt.mp (nI_pos (by omega)), nI_lt hi (by omega)⟩)), Nat.add_zero]
    · rw [if_neg hi, if_neg hi]
  · rw [bI_n, decide_eq_true_eq] at q1
    replace q1 : 0 ≤ v ∧ v < sI S 1 6 := q1
    rw [hN] at q1
    obtain ⟨f, hf, rfl⟩ := nI_below q1.1 q1.2 (by omega)
    have hqf := hq f hf
    refine rn_aload_n dX4_burden_11 rfl ?_
    refine rn_getfield dX4_burden_12 fo_X4_9 (h_del HX) rfl ?_
    refine rn_iload_n dX4_burden_15 rfl ?_
    refine rn_dup2 dX4_burden_16 rfl rfl ?_
    refine rn_faload dX4_burden_17 (h_loads HX) rfl (vp_in_nI (by omega) (by decide)) ?_
    rw [nI_clamp (by omega)]
    rw [show sF (pF S (x + 1) (LF n F0 q)) (x + 1) f = fv (q f) by rw [show sF (pF S (x + 1) (LF n F0 q)) (x + 1) = LF n F0 q from pF_eq]; exact LF_at hf]
    refine rn_fload_n dX4_burden_18 rfl ?_
    refine rn_fadd dX4_burden_19 (by rw [fv_add (by unfold fB; omega) (by unfold fB; omega)]; exact fv_n _) ?_
    refine rn_topf (fv_add (by unfold fB; omega) (by unfold fB; omega)) ?_
    refine rn_pF (a := x + 1) (n := 16) dX4_burden_20 (by omega) (by rcases HX with rfl | rfl <;> rfl) (by rcases HX with rfl | rfl <;> exact fun _ => rfl) (vp_in_nI (by omega) (by decide)) ?_
    rw [nI_clamp (by omega)]
    refine rn_eq (congrArg (fun z => (wd z E, sl)) ?_) (rn_ret dX4_burden_21 trivial rfl)
    rw [pF_pF, show (pF S (x + 1) (LF n F0 q)).2.2.2.1 (x + 1) = LF n F0 q from pF_eq]
    congr 1
    funext i
    unfold vf_upd LF
    by_cases hi : i = f
    · subst hi
      rw [if_pos rfl, if_pos hf, if_pos rfl]
      rfl
    · rw [if_neg hi]
      by_cases h2 : i < n
      · rw [if_pos h2, if_pos h2, if_neg (fun z => hi ((nI_eq (by omega) (by omega)).mp z.symm)), Nat.add_zero]
      · rw [if_neg h2, if_neg h2]
end D3
