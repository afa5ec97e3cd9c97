/-! Timing: lend and settle -/
theorem nI_self {x : Int32} {b : Nat} (h : ∃ w : Nat, w ≤ b ∧ x = nI w) (hb : b < 2 ^ 31) : x = nI x.toNatClampNeg ∧ x.toNatClampNeg ≤ b := by
  obtain ⟨w, h1, rfl⟩ := h
  rw [nI_clamp (by omega)]
  exact ⟨rfl, h1⟩
def per (S : jS) (v : Nat) : Nat := (sI S (v + 6) 0).toNatClampNeg
def lat (S : jS) (v : Nat) : Nat := (sI S (v + 6) 1).toNatClampNeg
def uns (S : jS) (v : Nat) : Nat := (sI S (v + 6) 2).toNatClampNeg
def skw (S : jS) (i : Nat) : Nat := (sI S (i + 13) 7).toNatClampNeg
def lgn (S : jS) (i : Nat) : Nat := lat S (sV S i) + skw S i
def mCrd (S : jS) (kl ke s e : Nat) : Int := mCr kl ke (lat S (sV S s)) (lat S (sV S e)) (decide (sI S (sV S s + 6) 4 = sI S (sV S e + 6) 4))
/-- what is left at the check from s to e, before a lending -/
def mLf (S : jS) (j kl ke : Nat) (A : Nat → Int) (s e : Nat) : Int := if isLateT j = 0 then lfEarly (decide (kd S e = 8)) (uns S (sV S e)) (lgn S s) (lgn S e) kl ke (mCrd S kl ke s e) (A (s * 32 + (fe1 S e).toNatClampNeg * 2 + 0)) (A (s * 32 + (fe1 S e).toNatClampNeg * 2 + 1)) else lfLate (decide (kd S e = 8)) (sA S 42 (s * 16 + e)).toNatClampNeg (uns S (sV S e)) (lgn S s) (lgn S e) kl ke (mCrd S kl ke s e) (A (s * 32 + (fe1 S e).toNatClampNeg * 2 + 0)) (A (s * 32 + (fe1 S e).toNatClampNeg * 2 + 1))
def CkH (S : jS) (n : Nat) : Prop := ∀ s e, s < n → e < n → bitR (sA S 40) s e = true → (∃ a, a < n ∧ fe1 S e = nI a) ∧ ∃ k : Nat, k ≤ 1000 ∧ sA S 42 (s * 16 + e) = nI k
theorem mCrd_r {S : jS} {n nr nc nk kl ke s e : Nat} (hT : Told S n nr nc nk) (hs : s < 16) (h1 : kl ≤ 16) (h2 : ke ≤ kl) : 0 ≤ mCrd S kl ke s e ∧ mCrd S kl ke s e ≤ 204800 :=
  mCr_r h1 h2 (nI_self ((hT.2.2.2.2.2.2.2.1 _ (hT.2.2.2.2.1 s hs)).2.1) (by decide)).2
theorem lgn_r {S : jS} {n nr nc nk s : Nat} (hT : Told S n nr nc nk) (hs : s < 16) : lgn S s ≤ 120 := by
  have h1 := (nI_self ((hT.2.2.2.2.2.2.2.1 _ (hT.2.2.2.2.1 s hs)).2.1) (by decide)).2
  have h2 := (nI_self ((hT.2.2.2.2.2.2.1 s hs).2.2) (by decide)).2
  unfold lgn lat skw
  omega
def okL (Z : Nat → Int) : Prop := ∀ x, -20000000 ≤ Z x ∧ Z x ≤ 20000000
theorem okL_u {Z : Nat → Int} {k : Nat} {v : Int} (h : okL Z) (h1 : -20000000 ≤ v) (h2 : v ≤ 20000000) : okL (upZ Z k v) := by
  intro x
  unfold upZ
  by_cases hx : x = k
  · rw [if_pos hx]
    exact ⟨h1, h2⟩
  · rw [if_neg hx]
    exact h x
theorem mLf_r {S : jS} {n nr nc nk j kl ke s e : Nat} {A : Nat → Int} (hT : Told S n nr nc nk) (hC : CkH S n) (hA : okA A) (hs : s < n) (he : e < n) (h1 : kl ≤ 16) (h2 : ke ≤ kl) (hb : bitR (sA S 40) s e = true) : -20000000 ≤ mLf S j kl ke A s e ∧ mLf S j kl ke A s e ≤ 20000000 := by
  have hn := hT.1.2
  have c1 := mCrd_r (kl := kl) (ke := ke) (s := s) (e := e) hT (by omega) h1 h2
  have l1 := lgn_r (s := s) hT (by omega)
  have l2 := lgn_r (s := e) hT (by omega)
  have x1 := xq_r (lg := lgn S s) (k := ke) l1 (by omega)
  have x2 := xq_r (lg := lgn S s) (k := kl) l1 (by omega)
  have x3 := xq_r (lg := lgn S e) (k := ke) l2 (by omega)
  have x4 := xq_r (lg := lgn S e) (k := kl) l2 (by omega)
  have u1 : uns S (sV S e) ≤ 20 := (nI_self ((hT.2.2.2.2.2.2.2.1 _ (hT.2.2.2.2.1 e (by omega))).2.2) (by decide)).2
  have a1 := okA_x hA (s * 32 + (fe1 S e).toNatClampNeg * 2 + 0)
  have a2 := okA_x hA (s * 32 + (fe1 S e).toNatClampNeg * 2 + 1)
  have g1 := (nI_self (hC s e hs he hb).2 (by decide)).2
  unfold mLf
  split
  · unfold lfEarly
    split <;> omega
  · unfold lfLate
    split <;> omega
/-- the checks to e of the starts below m are written -/
def mSe (S : jS) (j kl ke e : Nat) (A Z : Nat → Int) : Nat → Nat → Int
  | 0 => Z
  | s + 1 => if bitR (sA S 40) s e = true then upZ (mSe S j kl ke e A Z s) (s * 16 + e) (mLf S j kl ke A s e) else mSe S j kl ke e A Z s
theorem mSe_t {S : jS} {j kl ke e s : Nat} {A Z : Nat → Int} (h : bitR (sA S 40) s e = true) : mSe S j kl ke e A Z (s + 1) = upZ (mSe S j kl ke e A Z s) (s * 16 + e) (mLf S j kl ke A s e) := if_pos h
theorem mSe_f {S : jS} {j kl ke e s : Nat} {A Z : Nat → Int} (h : bitR (sA S 40) s e = false) : mSe S j kl ke e A Z (s + 1) = mSe S j kl ke e A Z s := if_neg (fun z => by rw [h] at z; exact absurd z (by decide))
theorem mSe_ok {S : jS} {n nr nc nk j kl ke e : Nat} {A Z : Nat → Int} (hT : Told S n nr nc nk) (hC : CkH S n) (hA : okA A) (he : e < n) (h1 : kl ≤ 16) (h2 : ke ≤ kl) (hZ : okL Z) : ∀ s, s ≤ n → okL (mSe S j kl ke e A Z s)
  | 0, _ => hZ
  | s + 1, h => by
    have ih := mSe_ok (j := j) hT hC hA he h1 h2 hZ s (by omega)
    cases hb : bitR (sA S 40) s e with
    | false => rw [mSe_f hb]; exact ih
    | true =>
      rw [mSe_t hb]
      have hr := mLf_r (j := j) hT hC hA (show s < n by omega) he h1 h2 hb
      exact okL_u ih hr.1 hr.2
/-- the greatest lack -/
def mLk (S : jS) (e : Nat) (Z : Nat → Int) : Nat → Int
  | 0 => 0
  | s + 1 => if bitR (sA S 40) s e = true then max (mLk S e Z s) (0 - Z (s * 16 + e)) else mLk S e Z s
theorem mLk_t {S : jS} {e s : Nat} {Z : Nat → Int} (h : bitR (sA S 40) s e = true) : mLk S e Z (s + 1) = max (mLk S e Z s) (0 - Z (s * 16 + e)) := if_pos h
theorem mLk_f {S : jS} {e s : Nat} {Z : Nat → Int} (h : bitR (sA S 40) s e = false) : mLk S e Z (s + 1) = mLk S e Z s := if_neg (fun z => by rw [h] at z; exact absurd z (by decide))
theorem mLk_r {S : jS} {e : Nat} {Z : Nat → Int} (hZ : okL Z) : ∀ s, 0 ≤ mLk S e Z s ∧ mLk S e Z s ≤ 20000000
  | 0 => by unfold mLk; omega
  | s + 1 => by
    have ih := mLk_r (e := e) (S := S) hZ s
    have := hZ (s * 16 + e)
    unfold mLk
    split <;> omega
def mBr (S : jS) (n e : Nat) (Z : Nat → Int) : Int := min (mLk S e Z n) (2048 * (per S (sV S e) : Nat))
theorem mBr_r {S : jS} {n nr nc nk e : Nat} {Z : Nat → Int} (hT : Told S n nr nc nk) (he : e < 16) (hZ : okL Z) : 0 ≤ mBr S n e Z ∧ mBr S n e Z ≤ 327680 := by
  have h1 := (nI_self ((hT.2.2.2.2.2.2.2.1 _ (hT.2.2.2.2.1 e he)).1) (by decide)).2
  have h2 := mLk_r (S := S) (e := e) hZ n
  unfold mBr per
  omega
/-- what is left after the lending -/
def mLn (S : jS) (e : Nat) (b : Int) (Z : Nat → Int) : Nat → Nat → Int
  | 0 => Z
  | s + 1 => if bitR (sA S 40) s e = true ∧ mLn S e b Z s (s * 16 + e) < 0 then upZ (mLn S e b Z s) (s * 16 + e) (min (mLn S e b Z s (s * 16 + e) + b) 0) else mLn S e b Z s
theorem mLn_t {S : jS} {e s : Nat} {b : Int} {Z : Nat → Int} (h : bitR (sA S 40) s e = true) (h2 : mLn S e b Z s (s * 16 + e) < 0) : mLn S e b Z (s + 1) = upZ (mLn S e b Z s) (s * 16 + e) (min (mLn S e b Z s (s * 16 + e) + b) 0) := if_pos ⟨h, h2⟩
theorem mLn_f {S : jS} {e s : Nat} {b : Int} {Z : Nat → Int} (h : bitR (sA S 40) s e = false) : mLn S e b Z (s + 1) = mLn S e b Z s := if_neg (fun z => by rw [h] at z; exact absurd z.1 (by decide))
theorem mLn_g {S : jS} {e s : Nat} {b : Int} {Z : Nat → Int} (h : ¬ mLn S e b Z s (s * 16 + e) < 0) : mLn S e b Z (s + 1) = mLn S e b Z s := if_neg (fun z => h z.2)
theorem mLn_ok {S : jS} {e : Nat} {b : Int} {Z : Nat → Int} (hZ : okL Z) (hb : 0 ≤ b) : ∀ s, okL (mLn S e b Z s)
  | 0 => hZ
  | s + 1 => by
    have ih := mLn_ok (S := S) (e := e) hZ hb s
    have := ih (s * 16 + e)
    unfold mLn
    split
    · exact okL_u ih (by omega) (by omega)
    · exact ih
def mLo (S : jS) (e : Nat) (Z : Nat → Int) (s : Nat) : Int := if bitR (sA S 40) s e = true then Z (s * 16 + e) else 409595904
def mLs (S : jS) (e : Nat) (Z : Nat → Int) : Nat → Int
  | 0 => 409595904
  | s + 1 => min (mLs S e Z s) (mLo S e Z s)
theorem mLo_r {S : jS} {e : Nat} {Z : Nat → Int} (hZ : okL Z) (s : Nat) : -20000000 ≤ mLo S e Z s ∧ mLo S e Z s ≤ 409595904 := by
  have := hZ (s * 16 + e)
  unfold mLo
  split <;> omega
theorem mLs_r {S : jS} {e : Nat} {Z : Nat → Int} (hZ : okL Z) : ∀ s, -20000000 ≤ mLs S e Z s ∧ mLs S e Z s ≤ 409595904
  | 0 => by unfold mLs; omega
  | s + 1 => by
    have ih := mLs_r (e := e) (S := S) hZ s
    have := mLo_r (e := e) (S := S) hZ s
    unfold mLs
    omega
theorem upZ_eq (A : Nat → Int) (k : Nat) (v : Int) : upZ A k v k = v := if_pos rfl
theorem upZ_upZ (A : Nat → Int) (k : Nat) (v w : Int) : upZ (upZ A k v) k w = upZ A k w := by
  funext x
  unfold upZ
  by_cases h : x = k
  · rw [if_pos h, if_pos h]
  · rw [if_neg h, if_neg h, if_neg h]
section T6
variable {l : Launch} {D : va_G} {ad : Nat → Nat} {tc : Nat → ClassId} {L : Nat} {xs : Nat → Int32} {S : jS} {E : List j_C} {sl x : Nat}
theorem w_Late {n nr nc nk j c kl ke s e : Nat} {A Z M BB : Nat → Int} (hj : j < 7) (hc : c < 3) (hkl : sD S (c + 10) 0 = dv (512 * kl)) (hke : sD S (c + 10) 1 = dv (512 * ke)) (hl1 : kl ≤ 16) (hk1 : ke ≤ kl) (hT : Told S n nr nc nk) (hC : CkH S n) (hA : okA A) (hs : s < n) (he : e < n) (hb : bitR (sA S 40) s e = true) (hl : ¬ isLateT j = 0) : Cn l D ad tc L xs mX8_leftForLate 1 23 [.ref (5 * j + 50), .int (nI s), .int (nI e), .ref (c + 11)] (wd (sT S j (A, Z, M, BB)) E, sl) (some (.double (dv (mLf S j kl ke A s e)))) (wd (sT S j (A, Z, M, BB)) E, sl) := by
  have hn := hT.1.2
  have hv := hT.2.2.2.2.1
  have hK := hT.2.2.2.2.2.2.2.1
  have hN := hT.2.2.2.2.2.2.1
  have i1 := nI_self ((hK _ (hv s (by omega))).2.1) (by decide)
  have i2 := nI_self ((hK _ (hv e (by omega))).2.1) (by decide)
  have i3 := nI_self ((hK _ (hv e (by omega))).2.2) (by decide)
  have i4 := nI_self ((hN s (by omega)).2.2) (by decide)
  have i5 := nI_self ((hN e (by omega)).2.2) (by decide)
  have hg := nI_self (hC s e hs he hb).2 (by decide)
  have hf : fe1 S e = nI (fe1 S e).toNatClampNeg ∧ (fe1 S e).toNatClampNeg ≤ 15 := nI_self (by obtain ⟨a, ha, hz⟩ := (hC s e hs he hb).1; exact ⟨a, by omega, hz⟩) (by decide)
  have a1 := okA_x hA (s * 32 + (fe1 S e).toNatClampNeg * 2 + 0)
  have a2 := okA_x hA (s * 32 + (fe1 S e).toNatClampNeg * 2 + 1)
  unfold mLf
  rw [if_neg hl]
  exact c_X8_leftForLate (S := sT S j (A, Z, M, BB)) (gp := (sA S 42 (s * 16 + e)).toNatClampNeg) (la := lat S (sV S s)) (lb := lat S (sV S e)) (sa := skw S s) (sb := skw S e) (un := uns S (sV S e)) (a := (fe1 S e).toNatClampNeg) hj (by omega) (by omega) hc hv ((congrFun (sT_o (by omega)) 0).trans hkl) ((congrFun (sT_o (by omega)) 1).trans hke) hl1 hk1 i1.1 i2.1 i4.1 i5.1 i3.1 i1.2 i2.2 i4.2 i5.2 i3.2 (by omega) hf.1 (congrFun (sT_a _ _ _) _) (congrFun (sT_a _ _ _) _) (by omega) (by omega) (by omega) (by omega) hg.1 hg.2
theorem w_Early {n nr nc nk j c kl ke s e : Nat} {A Z M BB : Nat → Int} (hj : j < 7) (hc : c < 3) (hkl : sD S (c + 10) 0 = dv (512 * kl)) (hke : sD S (c + 10) 1 = dv (512 * ke)) (hl1 : kl ≤ 16) (hk1 : ke ≤ kl) (hT : Told S n nr nc nk) (hC : CkH S n) (hA : okA A) (hs : s < n) (he : e < n) (hb : bitR (sA S 40) s e = true) (hl : isLateT j = 0) : Cn l D ad tc L xs mX8_leftForEarly 1 23 [.ref (5 * j + 50), .int (nI s), .int (nI e), .ref (c + 11)] (wd (sT S j (A, Z, M, BB)) E, sl) (some (.double (dv (mLf S j kl ke A s e)))) (wd (sT S j (A, Z, M, BB)) E, sl) := by
  have hn := hT.1.2
  have hv := hT.2.2.2.2.1
  have hK := hT.2.2.2.2.2.2.2.1
  have hN := hT.2.2.2.2.2.2.1
  have i1 := nI_self ((hK _ (hv s (by omega))).2.1) (by decide)
  have i2 := nI_self ((hK _ (hv e (by omega))).2.1) (by decide)
  have i3 := nI_self ((hK _ (hv e (by omega))).2.2) (by decide)
  have i4 := nI_self ((hN s (by omega)).2.2) (by decide)
  have i5 := nI_self ((hN e (by omega)).2.2) (by decide)
  have hg := nI_self (hC s e hs he hb).2 (by decide)
  have hf : fe1 S e = nI (fe1 S e).toNatClampNeg ∧ (fe1 S e).toNatClampNeg ≤ 15 := nI_self (by obtain ⟨a, ha, hz⟩ := (hC s e hs he hb).1; exact ⟨a, by omega, hz⟩) (by decide)
  have a1 := okA_x hA (s * 32 + (fe1 S e).toNatClampNeg * 2 + 0)
  have a2 := okA_x hA (s * 32 + (fe1 S e).toNatClampNeg * 2 + 1)
  unfold mLf
  rw [if_pos hl]
  exact c_X8_leftForEarly (S := sT S j (A, Z, M, BB)) (la := lat S (sV S s)) (lb := lat S (sV S e)) (sa := skw S s) (sb := skw S e) (un := uns S (sV S e)) (a := (fe1 S e).toNatClampNeg) hj (by omega) (by omega) hc hv ((congrFun (sT_o (by omega)) 0).trans hkl) ((congrFun (sT_o (by omega)) 1).trans hke) hl1 hk1 i1.1 i2.1 i4.1 i5.1 i3.1 i1.2 i2.2 i4.2 i5.2 i3.2 (by omega) hf.1 (congrFun (sT_a _ _ _) _) (congrFun (sT_a _ _ _) _) (by omega) (by omega) (by omega) (by omega)
set_option maxRecDepth 20000 in
theorem lp_lend2 {n nr nc nk j e : Nat} {A Z M BB : Nat → Int} (hj : j < 7) (hT : Told S n nr nc nk) (hZ : okL Z) (he : e < n) : ∀ m k : Nat, k + m = n → Rn l D ad tc L xs mX8_lend 1 23 88 [(4, .int (nI k)), (0, .ref (5 * j + 50)), (1, .int (nI e))] [] (wd (sT S j (A, mLn S e (mBr S n e Z) Z k, M, upZ BB e (mBr S n e Z))) E, sl) none (wd (sT S j (A, mLn S e (mBr S n e Z) Z n, M, upZ BB e (mBr S n e Z))) E, sl) := by
  obtain ⟨⟨hN, hn⟩, -, -, -, hv, -, -, hK, -, -⟩ := id hT
  intro m
  induction m with
  | zero =>
    intro k hk
    have hk' : n = k := by omega
    subst hk'
    have hN1 := hN
    refine rn_iload dX8_lend_88 rfl ?_
    refine rn_aload_n dX8_lend_90 rfl ?_
    refine rn_getfield dX8_lend_91 fo_X8_24 (h_tim (by omega)) rfl ?_
    refine rn_getfield dX8_lend_94 fo_X8_40 h_chip rfl ?_
    refine rn_topi hN1 ?_
    refine rn_icmp_ge (tgt := 165) dX8_lend_97 rfl (fun _ => ?_) (fun q1 => absurd (by exact Int32.le_refl _) q1)
    exact rn_ret dX8_lend_165 trivial rfl
  | succ m ih =>
    intro k hk
    have hN1 := hN
    have ih := ih (k + 1) (by omega)
    have KJ : Rn l D ad tc L xs mX8_lend 1 23 159 [(4, .int (nI k)), (0, .ref (5 * j + 50)), (1, .int (nI e))] [] (wd (sT S j (A, mLn S e (mBr S n e Z) Z (k + 1), M, upZ BB e (mBr S n e Z))) E, sl) none (wd (sT S j (A, mLn S e (mBr S n e Z) Z n, M, upZ BB e (mBr S n e Z))) E, sl) := by
      refine rn_iinc dX8_lend_159 rfl (nI_1 _) (by decide) rfl ?_
      refine rn_goto (tgt := 88) dX8_lend_162 rfl ?_
      exact rn_subg rfl ih
    have hbr := mBr_r (n := n) hT (show e < 16 by omega) hZ
    have hln := mLn_ok (S := S) (e := e) hZ hbr.1 k (k * 16 + e)
    have LZ : sD (sT S j (A, mLn S e (mBr S n e Z) Z k, M, upZ BB e (mBr S n e Z))) (5 * j + 51) (k * 16 + e) = dv (mLn S e (mBr S n e Z) Z k (k * 16 + e)) := congrFun (sT_l _ _ _) _
    have LB : sD (sT S j (A, mLn S e (mBr S n e Z) Z k, M, upZ BB e (mBr S n e Z))) (5 * j + 53) e = dv (mBr S n e Z) := (congrFun (sT_b _ _ _) _).trans (congrArg dv (upZ_eq _ _ _))
    refine rn_iload dX8_lend_88 rfl ?_
    refine rn_aload_n dX8_lend_90 rfl ?_
    refine rn_getfield dX8_lend_91 fo_X8_24 (h_tim (by omega)) rfl ?_
    refine rn_getfield dX8_lend_94 fo_X8_40 h_chip rfl ?_
    refine rn_topi hN1 ?_
    refine rn_icmp_ge (tgt := 165) dX8_lend_97 rfl (fun q1 => absurd q1 (by rw [Int32.le_iff_toInt_le, nI_toInt (by omega), nI_toInt (by omega)] at q1; omega)) (fun _ => ?_)
    refine rn_iload dX8_lend_100 rfl ?_
    refine rn_bipush (v := nI 16) dX8_lend_102 (by decide) ?_
    refine rn_imul dX8_lend_104 ?_
    refine rn_topi (nI_mul _ _) ?_
    refine rn_iload_n dX8_lend_105 rfl ?_
    refine rn_iadd dX8_lend_106 ?_
    refine rn_topi (nI_add _ _) ?_
    refine rn_istore dX8_lend_107 (by decide) rfl ?_
    refine rn_aload_n dX8_lend_109 rfl ?_
    refine rn_getfield dX8_lend_110 fo_X8_28 (h_tim (by omega)) rfl ?_
    refine rn_iload dX8_lend_113 rfl ?_
    refine rn_iload_n dX8_lend_115 rfl ?_
    refine rn_callV dX8_lend_116 cv_X8_117 (c_X6_isChecked (by omega)) rfl h_paths rfl rfl (by decide) (by decide) rfl (Nat.le_of_ble_eq_true rfl) ?_
    refine rn_if_eq (tgt := 159) dX8_lend_119 rfl (fun q2 => ?_) (fun q2 => ?_)
    · rw [bI_0] at q2
      have hb0 : bitR (sA S 40) k e = false := q2
      first
        | exact rn_eq (congrArg (fun z => (wd z E, sl)) ((sT_pL S j A _ M _ _ _).trans (congrArg (fun z => sT S j (A, z, M, upZ BB e (mBr S n e Z))) (mLn_t hb0 hz).symm))) (rn_subg rfl KJ)
        | exact rn_eq (congrArg (fun z => (wd (sT S j (A, z, M, upZ BB e (mBr S n e Z))) E, sl)) (mLn_f (b := mBr S n e Z) (Z := Z) hb0).symm) (rn_subg rfl KJ)
        | exact rn_eq (congrArg (fun z => (wd (sT S j (A, z, M, upZ BB e (mBr S n e Z))) E, sl)) (mLn_g hz).symm) (rn_subg rfl KJ)
    · rw [bI_n] at q2
      have hb0 : bitR (sA S 40) k e = true := q2
      refine rn_aload_n dX8_lend_122 rfl ?_
      refine rn_getfield dX8_lend_123 fo_X8_15 (h_tim (by omega)) rfl ?_
      refine rn_iload dX8_lend_126 rfl ?_
      refine rn_daload dX8_lend_128 (h_lefts (by omega)) rfl (vp_in_nI (by omega) (by decide)) ?_
      rw [nI_clamp (by omega)]
      rw [LZ]
      refine rn_dcon0 dX8_lend_129 ?_
      refine rn_dcmpv dX8_lend_130 (dB_of (by omega) (by omega)) (dB_of (by omega) (by omega)) ?_
      refine rn_if_ge (tgt := 159) dX8_lend_131 rfl (fun q3 => ?_) (fun q3 => ?_)
      · have hz : ¬ mLn S e (mBr S n e Z) Z k (k * 16 + e) < 0 := fun z => absurd (cmpI_lt.mpr z) (Int32.not_lt.mpr q3)
        first
          | exact rn_eq (congrArg (fun z => (wd z E, sl)) ((sT_pL S j A _ M _ _ _).trans (congrArg (fun z => sT S j (A, z, M, upZ BB e (mBr S n e Z))) (mLn_t hb0 hz).symm))) (rn_subg rfl KJ)
          | exact rn_eq (congrArg (fun z => (wd (sT S j (A, z, M, upZ BB e (mBr S n e Z))) E, sl)) (mLn_f (b := mBr S n e Z) (Z := Z) hb0).symm) (rn_subg rfl KJ)
          | exact rn_eq (congrArg (fun z => (wd (sT S j (A, z, M, upZ BB e (mBr S n e Z))) E, sl)) (mLn_g hz).symm) (rn_subg rfl KJ)
      · have hz : mLn S e (mBr S n e Z) Z k (k * 16 + e) < 0 := cmpI_lt.mp (Int32.not_le.mp q3)
        refine rn_aload_n dX8_lend_134 rfl ?_
        refine rn_getfield dX8_lend_135 fo_X8_15 (h_tim (by omega)) rfl ?_
        refine rn_iload dX8_lend_138 rfl ?_
        refine rn_aload_n dX8_lend_140 rfl ?_
        refine rn_getfield dX8_lend_141 fo_X8_15 (h_tim (by omega)) rfl ?_
        refine rn_iload dX8_lend_144 rfl ?_
        refine rn_daload dX8_lend_146 (h_lefts (by omega)) rfl (vp_in_nI (by omega) (by decide)) ?_
        rw [nI_clamp (by omega)]
        rw [LZ]
        refine rn_aload_n dX8_lend_147 rfl ?_
        refine rn_getfield dX8_lend_148 fo_X8_21 (h_tim (by omega)) rfl ?_
        refine rn_iload_n dX8_lend_151 rfl ?_
        refine rn_daload dX8_lend_152 (h_borrows (by omega)) rfl (vp_in_nI (by omega) (by decide)) ?_
        rw [nI_clamp (by omega)]
        rw [LB]
        refine rn_daddv dX8_lend_153 (dB_of (by omega) (by omega)) (dB_of (by omega) (by omega)) ?_
        refine rn_dcon0 dX8_lend_154 ?_
        refine rn_callSN dX8_lend_155 csn_X8_135 (c_X9_smaller (dB_of (by omega) (by omega)) (dB_of (by omega) (by omega))) rfl (by decide) (by decide) rfl (Nat.le_of_ble_eq_true rfl) ?_
        refine rn_pD (a := 5 * _ + 51) dX8_lend_158 (by omega) cc_lefts pD_lefts (vp_in_nI (by omega) (by decide)) ?_
        rw [nI_clamp (by omega)]
        first
          | exact rn_eq (congrArg (fun z => (wd z E, sl)) ((sT_pL S j A _ M _ _ _).trans (congrArg (fun z => sT S j (A, z, M, upZ BB e (mBr S n e Z))) (mLn_t hb0 hz).symm))) (rn_subg rfl KJ)
          | exact rn_eq (congrArg (fun z => (wd (sT S j (A, z, M, upZ BB e (mBr S n e Z))) E, sl)) (mLn_f (b := mBr S n e Z) (Z := Z) hb0).symm) (rn_subg rfl KJ)
          | exact rn_eq (congrArg (fun z => (wd (sT S j (A, z, M, upZ BB e (mBr S n e Z))) E, sl)) (mLn_g hz).symm) (rn_subg rfl KJ)
set_option maxRecDepth 20000 in
theorem lp_lend1 {n nr nc nk j e : Nat} {A Z M BB : Nat → Int} (hj : j < 7) (hT : Told S n nr nc nk) (hZ : okL Z) (he : e < n) : ∀ m k : Nat, k + m = n → Rn l D ad tc L xs mX8_lend 1 23 5 [(4, .int (nI k)), (2, .double (dv (mLk S e Z k))), (0, .ref (5 * j + 50)), (1, .int (nI e))] [] (wd (sT S j (A, Z, M, BB)) E, sl) none (wd (sT S j (A, mLn S e (mBr S n e Z) Z n, M, upZ BB e (mBr S n e Z))) E, sl) := by
  obtain ⟨⟨hN, hn⟩, -, -, -, hv, -, -, hK, -, -⟩ := id hT
  intro m
  induction m with
  | zero =>
    intro k hk
    have hk' : n = k := by omega
    subst hk'
    have hpe := nI_self ((hK _ (hv e (by omega))).1) (by decide)
    have hpe' : per S (sV S e) ≤ 160 := hpe.2
    have hlk := mLk_r (S := S) (e := e) hZ n
    have hN1 := hN
    refine rn_iload dX8_lend_5 rfl ?_
    refine rn_aload_n dX8_lend_7 rfl ?_
    refine rn_getfield dX8_lend_8 fo_X8_24 (h_tim (by omega)) rfl ?_
    refine rn_getfield dX8_lend_11 fo_X8_40 h_chip rfl ?_
    refine rn_topi hN1 ?_
    refine rn_icmp_ge (tgt := 55) dX8_lend_14 rfl (fun _ => ?_) (fun q1 => absurd (by exact Int32.le_refl _) q1)
    refine rn_aload_n dX8_lend_55 rfl ?_
    refine rn_getfield dX8_lend_56 fo_X8_21 (h_tim (by omega)) rfl ?_
    refine rn_iload_n dX8_lend_59 rfl ?_
    refine rn_dload_n dX8_lend_60 rfl ?_
    refine rn_dcon (n := 0) (m := 2048) dX8_lend_61 wd_360 (by decide +kernel) ?_
    refine rn_aload_n dX8_lend_64 rfl ?_
    refine rn_getfield dX8_lend_65 fo_X8_24 (h_tim (by omega)) rfl ?_
    refine rn_getfield dX8_lend_68 fo_X8_46 h_chip rfl ?_
    refine rn_iload_n dX8_lend_71 rfl ?_
    refine rn_aaload dX8_lend_72 h_nodes rfl (vp_in_nI (by omega) (by decide)) (refs_at rfl (by omega) (by decide)) ?_
    refine rn_getfield dX8_lend_73 fo_X8_142 (h_node (by omega)) rfl ?_
    refine rn_getfield dX8_lend_76 fo_X8_172 (h_clock (hv e (by omega))) rfl ?_
    refine rn_topi (y := nI (per S (sV S e))) hpe.1 ?_
    refine rn_i2dv dX8_lend_79 ?_
    rw [nI_toInt (by unfold per; omega)]
    refine rn_dmulv (c := 2048 * (per S (sV S e) : Nat)) dX8_lend_80 (dB_of (by omega) (by omega)) (dB_of (by omega) (by omega)) (by omega) (by omega) (by omega) ?_
    refine rn_callSN dX8_lend_81 csn_X8_135 (c_X9_smaller (dB_of (by omega) (by omega)) (dB_of (by omega) (by omega))) rfl (by decide) (by decide) rfl (Nat.le_of_ble_eq_true rfl) ?_
    refine rn_pD (a := 5 * _ + 53) dX8_lend_84 (by omega) cc_borrows pD_borrows (vp_in_nI (by omega) (by decide)) ?_
    rw [nI_clamp (by omega)]
    refine rn_eq (congrArg (fun z => (wd z E, sl)) (sT_pB S j A Z M BB _ _)) ?_
    refine rn_iconst (v := 0) dX8_lend_85 rfl ?_
    refine rn_istore dX8_lend_86 (by decide) rfl ?_
    exact rn_subg rfl (lp_lend2 hj hT hZ he n 0 (by omega))
  | succ m ih =>
    intro k hk
    have hN1 := hN
    have ih := ih (k + 1) (by omega)
    have KJ : Rn l D ad tc L xs mX8_lend 1 23 49 [(4, .int (nI k)), (2, .double (dv (mLk S e Z (k + 1)))), (0, .ref (5 * j + 50)), (1, .int (nI e))] [] (wd (sT S j (A, Z, M, BB)) E, sl) none (wd (sT S j (A, mLn S e (mBr S n e Z) Z n, M, upZ BB e (mBr S n e Z))) E, sl) := by
      refine rn_iinc dX8_lend_49 rfl (nI_1 _) (by decide) rfl ?_
      refine rn_goto (tgt := 5) dX8_lend_52 rfl ?_
      exact rn_subg rfl ih
    have hlk := mLk_r (S := S) (e := e) hZ k
    have hzz := hZ (k * 16 + e)
    have LZ : sD (sT S j (A, Z, M, BB)) (5 * j + 51) (k * 16 + e) = dv (Z (k * 16 + e)) := congrFun (sT_l _ _ _) _
    refine rn_iload dX8_lend_5 rfl ?_
    refine rn_aload_n dX8_lend_7 rfl ?_
    refine rn_getfield dX8_lend_8 fo_X8_24 (h_tim (by omega)) rfl ?_
    refine rn_getfield dX8_lend_11 fo_X8_40 h_chip rfl ?_
    refine rn_topi hN1 ?_
    refine rn_icmp_ge (tgt := 55) dX8_lend_14 rfl (fun q1 => absurd q1 (by rw [Int32.le_iff_toInt_le, nI_toInt (by omega), nI_toInt (by omega)] at q1; omega)) (fun _ => ?_)
    refine rn_aload_n dX8_lend_17 rfl ?_
    refine rn_getfield dX8_lend_18 fo_X8_28 (h_tim (by omega)) rfl ?_
    refine rn_iload dX8_lend_21 rfl ?_
    refine rn_iload_n dX8_lend_23 rfl ?_
    refine rn_callV dX8_lend_24 cv_X8_117 (c_X6_isChecked (by omega)) rfl h_paths rfl rfl (by decide) (by decide) rfl (Nat.le_of_ble_eq_true rfl) ?_
    refine rn_if_eq (tgt := 49) dX8_lend_27 rfl (fun q2 => ?_) (fun q2 => ?_)
    · rw [bI_0] at q2
      have hb0 : bitR (sA S 40) k e = false := q2
      first
        | (rw [mLk_t hb0] at KJ; exact rn_subg rfl KJ)
        | (rw [mLk_f hb0] at KJ; exact rn_subg rfl KJ)
    · rw [bI_n] at q2
      have hb0 : bitR (sA S 40) k e = true := q2
      refine rn_dload_n dX8_lend_30 rfl ?_
      refine rn_dcon0 dX8_lend_31 ?_
      refine rn_aload_n dX8_lend_32 rfl ?_
      refine rn_getfield dX8_lend_33 fo_X8_15 (h_tim (by omega)) rfl ?_
      refine rn_iload dX8_lend_36 rfl ?_
      refine rn_bipush (v := nI 16) dX8_lend_38 (by decide) ?_
      refine rn_imul dX8_lend_40 ?_
      refine rn_topi (nI_mul _ _) ?_
      refine rn_iload_n dX8_lend_41 rfl ?_
      refine rn_iadd dX8_lend_42 ?_
      refine rn_topi (nI_add _ _) ?_
      refine rn_daload dX8_lend_43 (h_lefts (by omega)) rfl (vp_in_nI (by omega) (by decide)) ?_
      rw [nI_clamp (by omega)]
      rw [LZ]
      refine rn_dsubv dX8_lend_44 (dB_of (by omega) (by omega)) (dB_of (by omega) (by omega)) ?_
      refine rn_callSN dX8_lend_45 csn_X8_161 (c_X9_greater (dB_of (by omega) (by omega)) (dB_of (by omega) (by omega))) rfl (by decide) (by decide) rfl (Nat.le_of_ble_eq_true rfl) ?_
      refine rn_dstore_n dX8_lend_48 (by decide) rfl ?_
      first
        | (rw [mLk_t hb0] at KJ; exact rn_subg rfl KJ)
        | (rw [mLk_f hb0] at KJ; exact rn_subg rfl KJ)
set_option maxRecDepth 20000 in
theorem c_X8_lend {n nr nc nk j e : Nat} {A Z M BB : Nat → Int} (hj : j < 7) (hT : Told S n nr nc nk) (hZ : okL Z) (he : e < n) : Cn l D ad tc L xs mX8_lend 1 23 [.ref (5 * j + 50), .int (nI e)] (wd (sT S j (A, Z, M, BB)) E, sl) none (wd (sT S j (A, mLn S e (mBr S n e Z) Z n, M, upZ BB e (mBr S n e Z))) E, sl) := by
  refine cn_of (lv0 := [(0, .ref (5 * j + 50)), (1, .int (nI e))]) (by decide +kernel) rfl (fun _ => by simp [lg_sl, j_v, Value.category]) (fun _ => rfl) ?_
  refine rn_dcon0 dX8_lend_0 ?_
  refine rn_dstore_n dX8_lend_1 (by decide) rfl ?_
  refine rn_iconst (v := 0) dX8_lend_2 rfl ?_
  refine rn_istore dX8_lend_3 (by decide) rfl ?_
  exact rn_subg rfl (lp_lend1 hj hT hZ he n 0 (by omega))
end T6
