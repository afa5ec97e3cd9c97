/-! Timing: reckon -/
def okT (t : TT) : Prop := okA t.1 ∧ okL t.2.1 ∧ (∀ x, -20000000 ≤ t.2.2.1 x ∧ t.2.2.1 x ≤ 409595904) ∧ ∀ x, 0 ≤ t.2.2.2 x ∧ t.2.2.2 x ≤ 400000
def mArr (S : jS) (j kl ke : Nat) (p : Nat → Int) (m : Nat) (t : TT) : TT := if stB S m = true then (mDep t.1 m (t.2.2.2 m) (mDl j kl ke (p m) 0) (mDl j kl ke (p m) 1), t.2) else if gaB S m = true then (mPass S j m kl ke (p m) t.1, t.2) else t
def mStep (S : jS) (j kl ke n : Nat) (p : Nat → Int) (m : Nat) (t : TT) : TT := mArr S j kl ke p m (if kd S m = 7 then mSettle S j kl ke n m (t.1, t.2.1, t.2.2.1, upZ t.2.2.2 m 0) else (t.1, t.2.1, t.2.2.1, upZ t.2.2.2 m 0))
def mRk1 (S : jS) (j kl ke n : Nat) (p : Nat → Int) (t : TT) : Nat → TT
  | 0 => t
  | m + 1 => mStep S j kl ke n p m (mRk1 S j kl ke n p t m)
def mSt2 (S : jS) (j kl ke n m : Nat) (t : TT) : TT := if kd S m = 6 ∨ kd S m = 8 then mSettle S j kl ke n m t else t
def mRk2 (S : jS) (j kl ke n : Nat) (t : TT) : Nat → TT
  | 0 => t
  | m + 1 => mSt2 S j kl ke n m (mRk2 S j kl ke n t m)
/-- all that reckon does to the tables -/
def mRk (S : jS) (j kl ke n : Nat) (p : Nat → Int) (t : TT) : TT := mRk2 S j kl ke n (mRk1 S j kl ke n p t n) n
theorem mArr_s {S : jS} {j kl ke m : Nat} {p : Nat → Int} {t : TT} (h : stB S m = true) : mArr S j kl ke p m t = (mDep t.1 m (t.2.2.2 m) (mDl j kl ke (p m) 0) (mDl j kl ke (p m) 1), t.2) := if_pos h
theorem mArr_g {S : jS} {j kl ke m : Nat} {p : Nat → Int} {t : TT} (h : stB S m = false) (h2 : gaB S m = true) : mArr S j kl ke p m t = (mPass S j m kl ke (p m) t.1, t.2) := by
  unfold mArr
  rw [if_neg (by rw [h]; decide), if_pos h2]
theorem mArr_n {S : jS} {j kl ke m : Nat} {p : Nat → Int} {t : TT} (h : stB S m = false) (h2 : gaB S m = false) : mArr S j kl ke p m t = t := by
  unfold mArr
  rw [if_neg (by rw [h]; decide), if_neg (by rw [h2]; decide)]
theorem mStep_l {S : jS} {j kl ke n m : Nat} {p : Nat → Int} {A Z M BB : Nat → Int} (h : kd S m = 7) : mStep S j kl ke n p m (A, Z, M, BB) = mArr S j kl ke p m (mSettle S j kl ke n m (A, Z, M, upZ BB m 0)) := by
  unfold mStep
  rw [if_pos h]
theorem mStep_n {S : jS} {j kl ke n m : Nat} {p : Nat → Int} {A Z M BB : Nat → Int} (h : ¬ kd S m = 7) : mStep S j kl ke n p m (A, Z, M, BB) = mArr S j kl ke p m (A, Z, M, upZ BB m 0) := by
  unfold mStep
  rw [if_neg h]
theorem okU {F : Nat → Int} {a b : Int} {k : Nat} {v : Int} (h : ∀ x, a ≤ F x ∧ F x ≤ b) (h1 : a ≤ v) (h2 : v ≤ b) : ∀ x, a ≤ upZ F k v x ∧ upZ F k v x ≤ b := by
  intro x
  unfold upZ
  by_cases hx : x = k
  · rw [if_pos hx]
    exact ⟨h1, h2⟩
  · rw [if_neg hx]
    exact h x
theorem mSettle_ok {S : jS} {n nr nc nk j kl ke e : Nat} {t : TT} (hT : Told S n nr nc nk) (hC : CkH S n) (h1 : kl ≤ 16) (h2 : ke ≤ kl) (he : e < n) (ht : okT t) : okT (mSettle S j kl ke n e t) := by
  obtain ⟨A, Z, M, BB⟩ := t
  obtain ⟨hA, hZ, hM, hB⟩ := ht
  have hn := hT.1.2
  have hZ1 := mSe_ok (j := j) (kl := kl) (ke := ke) hT hC hA he h1 h2 hZ n (by omega)
  have hbr := mBr_r (n := n) hT (show e < 16 by omega) hZ1
  have hZ2 := mLn_ok (S := S) (e := e) hZ1 hbr.1 n
  have r1 := mLs_r (S := S) (e := e) hZ1 n
  have r2 := mLs_r (S := S) (e := e) hZ2 n
  unfold mSettle
  split
  · exact ⟨hA, hZ2, okU hM r2.1 r2.2, okU hB hbr.1 (by omega)⟩
  · exact ⟨hA, hZ1, okU hM r1.1 r1.2, hB⟩
def rises (S : jS) (j n : Nat) (p : Nat → Int) : Prop := ∀ i, i < n → sD S (xT j + 2) i = dv (32 * p i) ∧ 0 ≤ p i ∧ p i ≤ 17000
theorem mPass_ok {S : jS} {j q kl ke : Nat} {p : Int} {A : Nat → Int} (hq : q < 16) (hl1 : kl ≤ 16) (hk1 : ke ≤ kl) (hp : 0 ≤ p) (hp2 : p ≤ 17000) (hA : okA A) (h1 : fe1 S q = -1 ∨ ∃ a, a < q ∧ fe1 S q = nI a) (h2 : fe2 S q = -1 ∨ ∃ a, a < q ∧ fe2 S q = nI a) : okA (mPass S j q kl ke p A) :=
  mPs_ok hq (by decide) (mPs_ok hq (by decide) hA (mDl_r hl1 (by omega) hp hp2) h1 h2 q) (mDl_r hl1 (by omega) hp hp2) h1 h2 q
theorem fe_gate {S : jS} {n nr nc nk q : Nat} (hT : Told S n nr nc nk) (hq : q < n) (hg : gaB S q = true) : (fe1 S q = -1 ∨ ∃ a, a < q ∧ fe1 S q = nI a) ∧ (fe2 S q = -1 ∨ ∃ a, a < q ∧ fe2 S q = nI a) := by
  have h := hT.2.2.2.2.2.1 q hq
  refine ⟨h.2.2.1 (fun z => ?_), h.2.2.2⟩
  have hz := of_decide_eq_true hg
  replace z : sI S (q + 13) 0 = 6 := z
  rw [z] at hz
  exact absurd hz.2 (by decide)
theorem mArr_ok {S : jS} {n nr nc nk j kl ke m : Nat} {p : Nat → Int} {t : TT} (hT : Told S n nr nc nk) (hP : rises S j n p) (h1 : kl ≤ 16) (h2 : ke ≤ kl) (hm : m < n) (ht : okT t) : okT (mArr S j kl ke p m t) := by
  obtain ⟨A, Z, M, BB⟩ := t
  have hn := hT.1.2
  have hp := hP m hm
  cases hs : stB S m with
  | true =>
    rw [mArr_s (S := S) hs]
    have d0 := mDl_r (j := j) (kl := kl) (ke := ke) (e := 0) h1 (by omega) hp.2.1 hp.2.2
    have d1 := mDl_r (j := j) (kl := kl) (ke := ke) (e := 1) h1 (by omega) hp.2.1 hp.2.2
    have hb := ht.2.2.2 m
    replace hb : 0 ≤ BB m ∧ BB m ≤ 400000 := hb
    refine ⟨?_, ht.2⟩
    show okA (mDep A m (BB m) _ _)
    unfold mDep
    refine okA_u (okA_u ht.1 (by omega) ?_) (by omega) ?_
    · omega
    · omega
  | false =>
    cases hg : gaB S m with
    | true =>
      rw [mArr_g (S := S) hs hg]
      have hf := fe_gate hT hm hg
      exact ⟨mPass_ok (by omega) h1 h2 hp.2.1 hp.2.2 ht.1 hf.1 hf.2, ht.2⟩
    | false => rw [mArr_n (S := S) hs hg]; exact ht
theorem mStep_ok {S : jS} {n nr nc nk j kl ke m : Nat} {p : Nat → Int} {t : TT} (hT : Told S n nr nc nk) (hC : CkH S n) (hP : rises S j n p) (h1 : kl ≤ 16) (h2 : ke ≤ kl) (hm : m < n) (ht : okT t) : okT (mStep S j kl ke n p m t) := by
  have h0 : okT (t.1, t.2.1, t.2.2.1, upZ t.2.2.2 m 0) := ⟨ht.1, ht.2.1, ht.2.2.1, okU ht.2.2.2 (by omega) (by omega)⟩
  unfold mStep
  refine mArr_ok hT hP h1 h2 hm ?_
  split
  · exact mSettle_ok hT hC h1 h2 hm h0
  · exact h0
theorem mRk1_ok {S : jS} {n nr nc nk j kl ke : Nat} {p : Nat → Int} {t : TT} (hT : Told S n nr nc nk) (hC : CkH S n) (hP : rises S j n p) (h1 : kl ≤ 16) (h2 : ke ≤ kl) (ht : okT t) : ∀ m, m ≤ n → okT (mRk1 S j kl ke n p t m)
  | 0, _ => ht
  | m + 1, h => mStep_ok hT hC hP h1 h2 (by omega) (mRk1_ok hT hC hP h1 h2 ht m (by omega))
theorem mRk2_ok {S : jS} {n nr nc nk j kl ke : Nat} {t : TT} (hT : Told S n nr nc nk) (hC : CkH S n) (h1 : kl ≤ 16) (h2 : ke ≤ kl) (ht : okT t) : ∀ m, m ≤ n → okT (mRk2 S j kl ke n t m)
  | 0, _ => ht
  | m + 1, h => by
    have ih := mRk2_ok (j := j) hT hC h1 h2 ht m (by omega)
    unfold mRk2 mSt2
    split
    · exact mSettle_ok hT hC h1 h2 (by omega) ih
    · exact ih
theorem mRk_ok {S : jS} {n nr nc nk j kl ke : Nat} {p : Nat → Int} {t : TT} (hT : Told S n nr nc nk) (hC : CkH S n) (hP : rises S j n p) (h1 : kl ≤ 16) (h2 : ke ≤ kl) (ht : okT t) : okT (mRk S j kl ke n p t) :=
  mRk2_ok hT hC h1 h2 (mRk1_ok hT hC hP h1 h2 ht n (Nat.le_refl n)) n (Nat.le_refl n)
section T8
variable {l : Launch} {D : va_G} {ad : Nat → Nat} {tc : Nat → ClassId} {L : Nat} {xs : Nat → Int32} {S : jS} {E : List j_C} {sl x : Nat}
set_option maxRecDepth 20000 in
theorem lp_arr {n nr nc nk j c kl ke m : Nat} {p : Nat → Int} {t : TT} {r : Option Value} {h' : j_H} (hj : j < 7) (hc : c < 3) (hkl : sD S (c + 10) 0 = dv (512 * kl)) (hke : sD S (c + 10) 1 = dv (512 * ke)) (hl1 : kl ≤ 16) (hk1 : ke ≤ kl) (hT : Told S n nr nc nk) (hP : rises S j n p) (ht : okT t) (hm : m < n)
    (K : Rn l D ad tc L xs mX8_reckon 3 84 74 [(2, .int (nI m)), (0, .ref (5 * j + 50)), (1, .ref (c + 11))] [] (wd (sT S j (mArr S j kl ke p m t)) E, sl) r h') : Rn l D ad tc L xs mX8_reckon 3 84 45 [(3, .ref (m + 14)), (2, .int (nI m)), (0, .ref (5 * j + 50)), (1, .ref (c + 11))] [] (wd (sT S j (t)) E, sl) r h' := by
  have hn := hT.1.2
  have hp := hP m hm
  obtain ⟨A, Z, M, BB⟩ := t
  have hb : 0 ≤ BB m ∧ BB m ≤ 400000 := ht.2.2.2 m
  refine rn_aload_n dX8_reckon_45 rfl ?_
  refine rn_callV dX8_reckon_46 cv_X8_59 (c_X5_isStart (by omega)) rfl (h_node (by omega)) rfl rfl (by decide) (by decide) rfl (Nat.le_of_ble_eq_true rfl) ?_
  refine rn_if_eq (tgt := 61) dX8_reckon_49 rfl (fun q1 => ?_) (fun q1 => ?_)
  · rw [bI_0] at q1
    have hs0 : stB S m = false := q1
    refine rn_aload_n dX8_reckon_61 rfl ?_
    refine rn_callV dX8_reckon_62 cv_X8_66 (c_X5_isGate (by omega)) rfl (h_node (by omega)) rfl rfl (by decide) (by decide) rfl (Nat.le_of_ble_eq_true rfl) ?_
    refine rn_if_eq (tgt := 74) dX8_reckon_65 rfl (fun q2 => ?_) (fun q2 => ?_)
    · rw [bI_0] at q2
      rw [mArr_n (S := S) hs0 q2] at K
      exact rn_subg rfl K
    · rw [bI_n] at q2
      have hf := fe_gate hT hm q2
      rw [mArr_g (S := S) hs0 q2] at K
      refine rn_aload_n dX8_reckon_68 rfl ?_
      refine rn_iload_n dX8_reckon_69 rfl ?_
      refine rn_aload_n dX8_reckon_70 rfl ?_
      refine rn_callV dX8_reckon_71 cv_X8_69 (c_X8_pass hj (by omega) hc hkl hke hl1 hk1 hp.1 hp.2.1 hp.2.2 ht.1 hf.1 hf.2) rfl (h_tim (by omega)) rfl rfl (by decide) (by decide) rfl (Nat.le_of_ble_eq_true rfl) ?_
      exact rn_subg rfl K
  · rw [bI_n] at q1
    have hs0 : stB S m = true := q1
    rw [mArr_s (S := S) hs0] at K
    refine rn_aload_n dX8_reckon_52 rfl ?_
    refine rn_iload_n dX8_reckon_53 rfl ?_
    refine rn_aload_n dX8_reckon_54 rfl ?_
    refine rn_callV dX8_reckon_55 cv_X8_63 (c_X8_depart hj (by omega) hc hkl hke hl1 hk1 hp.1 hp.2.1 hp.2.2 hb) rfl (h_tim (by omega)) rfl rfl (by decide) (by decide) rfl (Nat.le_of_ble_eq_true rfl) ?_
    refine rn_goto (tgt := 74) dX8_reckon_58 rfl ?_
    exact rn_subg rfl K
theorem mSt2_t {S : jS} {j kl ke n m : Nat} {t : TT} (h : kd S m = 6 ∨ kd S m = 8) : mSt2 S j kl ke n m t = mSettle S j kl ke n m t := if_pos h
theorem mSt2_f {S : jS} {j kl ke n m : Nat} {t : TT} (h : ¬ (kd S m = 6 ∨ kd S m = 8)) : mSt2 S j kl ke n m t = t := if_neg h
set_option maxRecDepth 20000 in
theorem lp_rk2 {n nr nc nk j c kl ke : Nat} {t : TT} (hj : j < 7) (hc : c < 3) (hkl : sD S (c + 10) 0 = dv (512 * kl)) (hke : sD S (c + 10) 1 = dv (512 * ke)) (hl1 : kl ≤ 16) (hk1 : ke ≤ kl) (hT : Told S n nr nc nk) (hC : CkH S n) (ht : okT t) : ∀ m k : Nat, k + m = n → Rn l D ad tc L xs mX8_reckon 3 84 82 [(2, .int (nI k)), (0, .ref (5 * j + 50)), (1, .ref (c + 11))] [] (wd (sT S j (mRk2 S j kl ke n t k)) E, sl) none (wd (pI (sT S j (mRk2 S j kl ke n t n)) (5 * j + 49) 8 1) E, sl) := by
  obtain ⟨⟨hN, hn⟩, -, -, -, hv, -, -, hK, -, -⟩ := id hT
  intro m
  induction m with
  | zero =>
    intro k hk
    have hk' : n = k := by omega
    subst hk'
    have hN1 := hN
    refine rn_iload_n dX8_reckon_82 rfl ?_
    refine rn_aload_n dX8_reckon_83 rfl ?_
    refine rn_getfield dX8_reckon_84 fo_X8_24 (h_tim (by omega)) rfl ?_
    refine rn_getfield dX8_reckon_87 fo_X8_40 h_chip rfl ?_
    refine rn_topi hN1 ?_
    refine rn_icmp_ge (tgt := 139) dX8_reckon_90 rfl (fun _ => ?_) (fun q1 => absurd (by exact Int32.le_refl _) q1)
    refine rn_aload_n dX8_reckon_139 rfl ?_
    refine rn_iconst (v := 1) dX8_reckon_140 rfl ?_
    refine rn_pI (a := 5 * j + 49) dX8_reckon_141 fp_X8_72 (by omega) cc_tim cc_timI (by simp) ⟨rfl, rfl⟩ ⟨_, _, _, rfl, rfl⟩ ?_
    exact rn_ret dX8_reckon_144 trivial rfl
  | succ m ih =>
    intro k hk
    have hN1 := hN
    have ih := ih (k + 1) (by omega)
    have KJ : Rn l D ad tc L xs mX8_reckon 3 84 133 [(2, .int (nI k)), (0, .ref (5 * j + 50)), (1, .ref (c + 11))] [] (wd (sT S j (mRk2 S j kl ke n t (k + 1))) E, sl) none (wd (pI (sT S j (mRk2 S j kl ke n t n)) (5 * j + 49) 8 1) E, sl) := by
      refine rn_iinc dX8_reckon_133 rfl (nI_1 _) (by decide) rfl ?_
      refine rn_goto (tgt := 82) dX8_reckon_136 rfl ?_
      exact rn_subg rfl ih
    rw [show mRk2 S j kl ke n t (k + 1) = mSt2 S j kl ke n k (mRk2 S j kl ke n t k) from rfl] at KJ
    have ht1 := mRk2_ok (j := j) hT hC hl1 hk1 ht k (by omega)
    generalize mRk2 S j kl ke n t k = t1 at KJ ht1 ⊢
    obtain ⟨A, Z, M, BB⟩ := t1
    refine rn_iload_n dX8_reckon_82 rfl ?_
    refine rn_aload_n dX8_reckon_83 rfl ?_
    refine rn_getfield dX8_reckon_84 fo_X8_24 (h_tim (by omega)) rfl ?_
    refine rn_getfield dX8_reckon_87 fo_X8_40 h_chip rfl ?_
    refine rn_topi hN1 ?_
    refine rn_icmp_ge (tgt := 139) dX8_reckon_90 rfl (fun q1 => absurd q1 (by rw [Int32.le_iff_toInt_le, nI_toInt (by omega), nI_toInt (by omega)] at q1; omega)) (fun _ => ?_)
    refine rn_aload_n dX8_reckon_93 rfl ?_
    refine rn_getfield dX8_reckon_94 fo_X8_24 (h_tim (by omega)) rfl ?_
    refine rn_getfield dX8_reckon_97 fo_X8_46 h_chip rfl ?_
    refine rn_iload_n dX8_reckon_100 rfl ?_
    refine rn_aaload dX8_reckon_101 h_nodes rfl (vp_in_nI (by omega) (by decide)) (refs_at rfl (by omega) (by decide)) ?_
    refine rn_getfield dX8_reckon_102 fo_X8_50 (h_node (by omega)) rfl ?_
    refine rn_bipush (v := 6) dX8_reckon_105 rfl ?_
    refine rn_icmp_eq (tgt := 127) dX8_reckon_107 rfl (fun q2 => ?_) (fun q2 => ?_)
    · rw [mSt2_t (S := S) (Or.inl q2)] at KJ
      refine rn_aload_n dX8_reckon_127 rfl ?_
      refine rn_iload_n dX8_reckon_128 rfl ?_
      refine rn_aload_n dX8_reckon_129 rfl ?_
      refine rn_callV dX8_reckon_130 cv_X8_55 (c_X8_settle hj hc hkl hke hl1 hk1 hT hC ht1.1 ht1.2.1 (by omega)) rfl (h_tim (by omega)) rfl rfl (by decide) (by decide) rfl (Nat.le_of_ble_eq_true rfl) ?_
      exact rn_subg rfl KJ
    · have h6 : ¬ kd S k = 6 := q2
      refine rn_aload_n dX8_reckon_110 rfl ?_
      refine rn_getfield dX8_reckon_111 fo_X8_24 (h_tim (by omega)) rfl ?_
      refine rn_getfield dX8_reckon_114 fo_X8_46 h_chip rfl ?_
      refine rn_iload_n dX8_reckon_117 rfl ?_
      refine rn_aaload dX8_reckon_118 h_nodes rfl (vp_in_nI (by omega) (by decide)) (refs_at rfl (by omega) (by decide)) ?_
      refine rn_getfield dX8_reckon_119 fo_X8_50 (h_node (by omega)) rfl ?_
      refine rn_bipush (v := 8) dX8_reckon_122 rfl ?_
      refine rn_icmp_ne (tgt := 133) dX8_reckon_124 rfl (fun q3 => ?_) (fun q3 => ?_)
      · rw [mSt2_f (S := S) (fun z => z.elim h6 q3)] at KJ
        exact rn_subg rfl KJ
      · rw [mSt2_t (S := S) (Or.inr q3)] at KJ
        refine rn_aload_n dX8_reckon_127 rfl ?_
        refine rn_iload_n dX8_reckon_128 rfl ?_
        refine rn_aload_n dX8_reckon_129 rfl ?_
        refine rn_callV dX8_reckon_130 cv_X8_55 (c_X8_settle hj hc hkl hke hl1 hk1 hT hC ht1.1 ht1.2.1 (by omega)) rfl (h_tim (by omega)) rfl rfl (by decide) (by decide) rfl (Nat.le_of_ble_eq_true rfl) ?_
        exact rn_subg rfl KJ
set_option maxRecDepth 20000 in
theorem lp_rk1 {n nr nc nk j c kl ke : Nat} {p : Nat → Int} {t : TT} (hj : j < 7) (hc : c < 3) (hkl : sD S (c + 10) 0 = dv (512 * kl)) (hke : sD S (c + 10) 1 = dv (512 * ke)) (hl1 : kl ≤ 16) (hk1 : ke ≤ kl) (hT : Told S n nr nc nk) (hC : CkH S n) (hP : rises S j n p) (ht : okT t) : ∀ m k : Nat, k + m = n → Rn l D ad tc L xs mX8_reckon 3 84 2 [(2, .int (nI k)), (0, .ref (5 * j + 50)), (1, .ref (c + 11))] [] (wd (sT S j (mRk1 S j kl ke n p t k)) E, sl) none (wd (pI (sT S j (mRk S j kl ke n p t)) (5 * j + 49) 8 1) E, sl) := by
  obtain ⟨⟨hN, hn⟩, -, -, -, hv, -, -, hK, -, -⟩ := id hT
  intro m
  induction m with
  | zero =>
    intro k hk
    have hk' : n = k := by omega
    subst hk'
    have hN1 := hN
    refine rn_iload_n dX8_reckon_2 rfl ?_
    refine rn_aload_n dX8_reckon_3 rfl ?_
    refine rn_getfield dX8_reckon_4 fo_X8_24 (h_tim (by omega)) rfl ?_
    refine rn_getfield dX8_reckon_7 fo_X8_40 h_chip rfl ?_
    refine rn_topi hN1 ?_
    refine rn_icmp_ge (tgt := 80) dX8_reckon_10 rfl (fun _ => ?_) (fun q1 => absurd (by exact Int32.le_refl _) q1)
    refine rn_iconst (v := 0) dX8_reckon_80 rfl ?_
    refine rn_istore_n dX8_reckon_81 (by decide) rfl ?_
    exact rn_subg rfl (lp_rk2 hj hc hkl hke hl1 hk1 hT hC (mRk1_ok hT hC hP hl1 hk1 ht n (Nat.le_refl n)) n 0 (by omega))
  | succ m ih =>
    intro k hk
    have hN1 := hN
    have ih := ih (k + 1) (by omega)
    have KJ : Rn l D ad tc L xs mX8_reckon 3 84 74 [(2, .int (nI k)), (0, .ref (5 * j + 50)), (1, .ref (c + 11))] [] (wd (sT S j (mRk1 S j kl ke n p t (k + 1))) E, sl) none (wd (pI (sT S j (mRk S j kl ke n p t)) (5 * j + 49) 8 1) E, sl) := by
      refine rn_iinc dX8_reckon_74 rfl (nI_1 _) (by decide) rfl ?_
      refine rn_goto (tgt := 2) dX8_reckon_77 rfl ?_
      exact rn_subg rfl ih
    rw [show mRk1 S j kl ke n p t (k + 1) = mStep S j kl ke n p k (mRk1 S j kl ke n p t k) from rfl] at KJ
    have ht1 := mRk1_ok hT hC hP hl1 hk1 ht k (by omega)
    generalize mRk1 S j kl ke n p t k = t1 at KJ ht1 ⊢
    obtain ⟨A, Z, M, BB⟩ := t1
    have ht0 : okT (A, Z, M, upZ BB k 0) := ⟨ht1.1, ht1.2.1, ht1.2.2.1, okU ht1.2.2.2 (by omega) (by omega)⟩
    refine rn_iload_n dX8_reckon_2 rfl ?_
    refine rn_aload_n dX8_reckon_3 rfl ?_
    refine rn_getfield dX8_reckon_4 fo_X8_24 (h_tim (by omega)) rfl ?_
    refine rn_getfield dX8_reckon_7 fo_X8_40 h_chip rfl ?_
    refine rn_topi hN1 ?_
    refine rn_icmp_ge (tgt := 80) dX8_reckon_10 rfl (fun q1 => absurd q1 (by rw [Int32.le_iff_toInt_le, nI_toInt (by omega), nI_toInt (by omega)] at q1; omega)) (fun _ => ?_)
    refine rn_aload_n dX8_reckon_13 rfl ?_
    refine rn_getfield dX8_reckon_14 fo_X8_24 (h_tim (by omega)) rfl ?_
    refine rn_getfield dX8_reckon_17 fo_X8_46 h_chip rfl ?_
    refine rn_iload_n dX8_reckon_20 rfl ?_
    refine rn_aaload dX8_reckon_21 h_nodes rfl (vp_in_nI (by omega) (by decide)) (refs_at rfl (by omega) (by decide)) ?_
    refine rn_astore_n dX8_reckon_22 (by decide) rfl ?_
    refine rn_aload_n dX8_reckon_23 rfl ?_
    refine rn_getfield dX8_reckon_24 fo_X8_21 (h_tim (by omega)) rfl ?_
    refine rn_iload_n dX8_reckon_27 rfl ?_
    refine rn_dcon0 dX8_reckon_28 ?_
    refine rn_pD (a := 5 * _ + 53) dX8_reckon_29 (by omega) cc_borrows pD_borrows (vp_in_nI (by omega) (by decide)) ?_
    rw [nI_clamp (by omega)]
    refine rn_eq (congrArg (fun z => (wd z E, sl)) (sT_pB S j A Z M BB _ _)) ?_
    refine rn_aload_n dX8_reckon_30 rfl ?_
    refine rn_getfield dX8_reckon_31 fo_X8_50 (h_node (by omega)) rfl ?_
    refine rn_bipush (v := 7) dX8_reckon_34 rfl ?_
    refine rn_icmp_ne (tgt := 45) dX8_reckon_36 rfl (fun q2 => ?_) (fun q2 => ?_)
    · rw [mStep_n (S := S) q2] at KJ
      exact rn_subg rfl (lp_arr hj hc hkl hke hl1 hk1 hT hP ht0 (by omega) KJ)
    · rw [mStep_l (S := S) q2] at KJ
      refine rn_aload_n dX8_reckon_39 rfl ?_
      refine rn_iload_n dX8_reckon_40 rfl ?_
      refine rn_aload_n dX8_reckon_41 rfl ?_
      refine rn_callV dX8_reckon_42 cv_X8_55 (c_X8_settle hj hc hkl hke hl1 hk1 hT hC ht1.1 ht1.2.1 (by omega)) rfl (h_tim (by omega)) rfl rfl (by decide) (by decide) rfl (Nat.le_of_ble_eq_true rfl) ?_
      exact rn_subg rfl (lp_arr hj hc hkl hke hl1 hk1 hT hP (mSettle_ok hT hC hl1 hk1 (by omega) ht0) (by omega) KJ)
set_option maxRecDepth 20000 in
theorem c_X8_reckon {n nr nc nk j c kl ke : Nat} {p : Nat → Int} {t : TT} (hj : j < 7) (hc : c < 3) (hkl : sD S (c + 10) 0 = dv (512 * kl)) (hke : sD S (c + 10) 1 = dv (512 * ke)) (hl1 : kl ≤ 16) (hk1 : ke ≤ kl) (hT : Told S n nr nc nk) (hC : CkH S n) (hP : rises S j n p) (ht : okT t) : Cn l D ad tc L xs mX8_reckon 3 84 [.ref (5 * j + 50), .ref (c + 11)] (wd (sT S j (t)) E, sl) none (wd (pI (sT S j (mRk S j kl ke n p t)) (5 * j + 49) 8 1) E, sl) := by
  refine cn_of (lv0 := [(0, .ref (5 * j + 50)), (1, .ref (c + 11))]) (by decide +kernel) rfl (fun _ => by simp [lg_sl, j_v, Value.category]) (fun _ => rfl) ?_
  refine rn_iconst (v := 0) dX8_reckon_0 rfl ?_
  refine rn_istore_n dX8_reckon_1 (by decide) rfl ?_
  exact rn_subg rfl (lp_rk1 hj hc hkl hke hl1 hk1 hT hC hP ht n 0 (by omega))
def mLe (S : jS) (M : Nat → Int) : Nat → Int
  | 0 => 409595904
  | e + 1 => if sA S 40 e ≠ 0 then min (mLe S M e) (M e) else mLe S M e
theorem mLe_t {S : jS} {M : Nat → Int} {e : Nat} (h : sA S 40 e ≠ 0) : mLe S M (e + 1) = min (mLe S M e) (M e) := if_pos h
theorem mLe_f {S : jS} {M : Nat → Int} {e : Nat} (h : ¬ sA S 40 e ≠ 0) : mLe S M (e + 1) = mLe S M e := if_neg h
theorem mLe_r {S : jS} {M : Nat → Int} (hM : ∀ x, -20000000 ≤ M x ∧ M x ≤ 409595904) : ∀ e, -20000000 ≤ mLe S M e ∧ mLe S M e ≤ 409595904
  | 0 => by unfold mLe; omega
  | e + 1 => by
    have ih := mLe_r (S := S) hM e
    have := hM e
    unfold mLe
    split <;> omega
set_option maxRecDepth 20000 in
theorem lp_lend_e {n nr nc nk j : Nat} {M : Nat → Int} (hj : j < 7) (hT : Told S n nr nc nk) (hS : sD S (5 * j + 52) = fun i => dv (M i)) (hM : ∀ x, -20000000 ≤ M x ∧ M x ≤ 409595904) : ∀ m k : Nat, k + m = n → Rn l D ad tc L xs mX8_leastOfEnds 1 23 6 [(3, .int (nI k)), (1, .double (dv (mLe S M k))), (0, .ref (5 * j + 50))] [] (wd S E, sl) (some (.double (dv (mLe S M n)))) (wd S E, sl) := by
  obtain ⟨⟨hN, hn⟩, -, -, -, hv, -, -, hK, -, -⟩ := id hT
  intro m
  induction m with
  | zero =>
    intro k hk
    have hk' : n = k := by omega
    subst hk'
    have hN1 := hN
    refine rn_iload_n dX8_leastOfEnds_6 rfl ?_
    refine rn_aload_n dX8_leastOfEnds_7 rfl ?_
    refine rn_getfield dX8_leastOfEnds_8 fo_X8_24 (h_tim (by omega)) rfl ?_
    refine rn_getfield dX8_leastOfEnds_11 fo_X8_40 h_chip rfl ?_
    refine rn_topi hN1 ?_
    refine rn_icmp_ge (tgt := 45) dX8_leastOfEnds_14 rfl (fun _ => ?_) (fun q1 => absurd (by exact Int32.le_refl _) q1)
    refine rn_dload_n dX8_leastOfEnds_45 rfl ?_
    exact rn_ret dX8_leastOfEnds_46 trivial rfl
  | succ m ih =>
    intro k hk
    have hN1 := hN
    have ih := ih (k + 1) (by omega)
    have KJ : Rn l D ad tc L xs mX8_leastOfEnds 1 23 39 [(3, .int (nI k)), (1, .double (dv (mLe S M (k + 1)))), (0, .ref (5 * j + 50))] [] (wd S E, sl) (some (.double (dv (mLe S M n)))) (wd S E, sl) := by
      refine rn_iinc dX8_leastOfEnds_39 rfl (nI_1 _) (by decide) rfl ?_
      refine rn_goto (tgt := 6) dX8_leastOfEnds_42 rfl ?_
      exact rn_subg rfl ih
    have hr1 := mLe_r (S := S) hM k
    have hr2 := hM k
    have LM : sD S (5 * j + 52) k = dv (M k) := congrFun hS k
    refine rn_iload_n dX8_leastOfEnds_6 rfl ?_
    refine rn_aload_n dX8_leastOfEnds_7 rfl ?_
    refine rn_getfield dX8_leastOfEnds_8 fo_X8_24 (h_tim (by omega)) rfl ?_
    refine rn_getfield dX8_leastOfEnds_11 fo_X8_40 h_chip rfl ?_
    refine rn_topi hN1 ?_
    refine rn_icmp_ge (tgt := 45) dX8_leastOfEnds_14 rfl (fun q1 => absurd q1 (by rw [Int32.le_iff_toInt_le, nI_toInt (by omega), nI_toInt (by omega)] at q1; omega)) (fun _ => ?_)
    refine rn_aload_n dX8_leastOfEnds_17 rfl ?_
    refine rn_getfield dX8_leastOfEnds_18 fo_X8_28 (h_tim (by omega)) rfl ?_
    refine rn_iload_n dX8_leastOfEnds_21 rfl ?_
    refine rn_callV dX8_leastOfEnds_22 cv_X8_177 (c_X6_hasCheck (by omega)) rfl h_paths rfl rfl (by decide) (by decide) rfl (Nat.le_of_ble_eq_true rfl) ?_
    refine rn_if_eq (tgt := 39) dX8_leastOfEnds_25 rfl (fun q2 => ?_) (fun q2 => ?_)
    · rw [bI_0, decide_eq_false_iff_not] at q2
      first
        | (rw [mLe_t (by assumption)] at KJ; exact rn_subg rfl KJ)
        | (rw [mLe_f (by assumption)] at KJ; exact rn_subg rfl KJ)
    · rw [bI_n, decide_eq_true_eq] at q2
      refine rn_dload_n dX8_leastOfEnds_28 rfl ?_
      refine rn_aload_n dX8_leastOfEnds_29 rfl ?_
      refine rn_getfield dX8_leastOfEnds_30 fo_X8_18 (h_tim (by omega)) rfl ?_
      refine rn_iload_n dX8_leastOfEnds_33 rfl ?_
      refine rn_daload dX8_leastOfEnds_34 (h_leasts (by omega)) rfl (vp_in_nI (by omega) (by decide)) ?_
      rw [nI_clamp (by omega)]
      rw [LM]
      refine rn_callSN dX8_leastOfEnds_35 csn_X8_135 (c_X9_smaller (dB_of (by omega) (by omega)) (dB_of (by omega) (by omega))) rfl (by decide) (by decide) rfl (Nat.le_of_ble_eq_true rfl) ?_
      refine rn_dstore_n dX8_leastOfEnds_38 (by decide) rfl ?_
      first
        | (rw [mLe_t (by assumption)] at KJ; exact rn_subg rfl KJ)
        | (rw [mLe_f (by assumption)] at KJ; exact rn_subg rfl KJ)
set_option maxRecDepth 20000 in
theorem c_X8_leastOfEnds {n nr nc nk j : Nat} {M : Nat → Int} (hj : j < 7) (hT : Told S n nr nc nk) (hS : sD S (5 * j + 52) = fun i => dv (M i)) (hM : ∀ x, -20000000 ≤ M x ∧ M x ≤ 409595904) : Cn l D ad tc L xs mX8_leastOfEnds 1 23 [.ref (5 * j + 50)] (wd S E, sl) (some (.double (dv (mLe S M n)))) (wd S E, sl) := by
  refine cn_of (lv0 := [(0, .ref (5 * j + 50))]) (by decide +kernel) rfl (fun _ => by simp [lg_sl, j_v, Value.category]) (fun _ => rfl) ?_
  refine rn_dcon (n := 0) (m := 409595904) dX8_leastOfEnds_0 wd_339 (by decide +kernel) ?_
  refine rn_dstore_n dX8_leastOfEnds_3 (by decide) rfl ?_
  refine rn_iconst (v := 0) dX8_leastOfEnds_4 rfl ?_
  refine rn_istore_n dX8_leastOfEnds_5 (by decide) rfl ?_
  exact rn_subg rfl (lp_lend_e hj hT hS hM n 0 (by omega))
end T8
