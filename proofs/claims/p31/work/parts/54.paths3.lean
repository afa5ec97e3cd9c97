/-! Paths: check and prepare -/
theorem pA_ext {S : jS} {g h : Nat → Nat → Int32} (e : ∀ a, g a = h a) : ((S.1, g, S.2.2) : jS) = (S.1, h, S.2.2) := by rw [show g = h from funext e]
def mCB (S : jS) (R : Nat → Int32) (nr e : Nat) : Nat → Int32
  | 0 => 0
  | m + 1 => if mChk S R nr m e = true then mCB S R nr e m ||| (1 <<< (nI m &&& 31)) else mCB S R nr e m
def gC (S : jS) (R : Nat → Int32) (nr e : Nat) (G : Nat → Int32) (m : Nat) : Nat → Int32 := fun x => if x % 16 = e ∧ x / 16 < m ∧ mChk S R nr (x / 16) e = true then mGap S (x / 16) e nr else G x
/-- what check of the end e leaves behind m starts -/
def sChk (S : jS) (nr e m : Nat) : jS := pA (pA S 40 (upd (S.2.1 40) e (mCB S (S.2.1 39) nr e m))) 42 (gC S (S.2.1 39) nr e (S.2.1 42) m)
theorem sChk_0 {S : jS} {nr e : Nat} : sChk S nr e 0 = pA S 40 (upd (S.2.1 40) e 0) := by
  unfold sChk
  refine pA_id ?_
  funext x
  show _ = S.2.1 42 x
  simp [gC]
theorem sChk_f {S : jS} {nr e m : Nat} (he : e < 16) (h : mChk S (S.2.1 39) nr m e = false) : sChk S nr e (m + 1) = sChk S nr e m := by
  unfold sChk
  congr 1
  · congr 2
    unfold mCB
    rw [if_neg (by rw [h]; decide)]
    cases m <;> rfl
  · funext x
    unfold gC
    by_cases h1 : x % 16 = e ∧ x / 16 < m ∧ mChk S (S.2.1 39) nr (x / 16) e = true
    · rw [if_pos h1, if_pos ⟨h1.1, by omega, h1.2.2⟩]
    · rw [if_neg h1, if_neg]
      intro z
      by_cases h2 : x / 16 = m
      · rw [h2, h] at z
        exact absurd z.2.2 (by decide)
      · exact h1 ⟨z.1, by omega, z.2.2⟩
theorem sChk_t {S : jS} {nr e m : Nat} (he : e < 16) (h : mChk S (S.2.1 39) nr m e = true) : pA (pA (sChk S nr e m) 40 (upd (S.2.1 40) e (mCB S (S.2.1 39) nr e m ||| (1 <<< (nI m &&& 31))))) 42 (upd (gC S (S.2.1 39) nr e (S.2.1 42) m) (m * 16 + e) (mGap S m e nr)) = sChk S nr e (m + 1) := by
  have e1 : mCB S (S.2.1 39) nr e (m + 1) = mCB S (S.2.1 39) nr e m ||| (1 <<< (nI m &&& 31)) := by
    show (if mChk S (S.2.1 39) nr m e = true then _ else _) = _
    rw [if_pos h]
  have e2 : upd (gC S (S.2.1 39) nr e (S.2.1 42) m) (m * 16 + e) (mGap S m e nr) = gC S (S.2.1 39) nr e (S.2.1 42) (m + 1) := by
    funext x
    unfold upd gC
    by_cases h1 : x = m * 16 + e
    · subst h1
      rw [if_pos rfl, show (m * 16 + e) / 16 = m by omega, if_pos ⟨by omega, by omega, h⟩]
    · rw [if_neg h1]
      by_cases h2 : x % 16 = e ∧ x / 16 < m ∧ mChk S (S.2.1 39) nr (x / 16) e = true
      · rw [if_pos h2, if_pos ⟨h2.1, by omega, h2.2.2⟩]
      · rw [if_neg h2, if_neg]
        intro z
        exact h2 ⟨z.1, by omega, z.2.2⟩
  rw [e2]
  unfold sChk
  rw [e1]
  refine pA_ext fun a => ?_
  show up1 (up1 (up1 (up1 S.2.1 40 _) 42 _) 40 _) 42 _ a = up1 (up1 S.2.1 40 _) 42 _ a
  by_cases h42 : a = 42
  · simp [up1, h42]
  · by_cases h40 : a = 40
    · simp [up1, h40]
    · simp [up1, h42, h40]
theorem upd_upd {f : Nat → Int32} {k : Nat} {a b : Int32} : upd (upd f k a) k b = upd f k b := by
  funext x
  unfold upd
  by_cases h : x = k <;> simp [h]
theorem upd_self {f : Nat → Int32} {k : Nat} {a : Int32} : upd f k a k = a := if_pos rfl
theorem sChk_t' {S : jS} {nr e m : Nat} (he : e < 16) (h : mChk S (S.2.1 39) nr m e = true) : pA (pA (sChk S nr e m) 40 (upd ((sChk S nr e m).2.1 40) e ((sChk S nr e m).2.1 40 e ||| (1 <<< (nI m &&& 31))))) 42 (upd (gC S (S.2.1 39) nr e (S.2.1 42) m) (m * 16 + e) (mGap S m e nr)) = sChk S nr e (m + 1) := by
  rw [← sChk_t he h]
  have e1 : (sChk S nr e m).2.1 40 = upd (S.2.1 40) e (mCB S (S.2.1 39) nr e m) := rfl
  rw [e1, upd_upd, upd_self]
theorem mWin_c {S S' : jS} (h : S'.1 = S.1) {s e : Int32} : ∀ k, mWin S' s e k = mWin S s e k
  | 0 => rfl
  | k + 1 => by
    have f1 : mFits S' k s e = mFits S k s e := by unfold mFits sI; rw [h]
    have f2 : mWeight S' k = mWeight S k := by unfold mWeight sI; rw [h]
    show (if mFits S' k s e = true ∧ ¬ mWeight S' k < (mWin S' s e k).2 then (nI k, mWeight S' k) else mWin S' s e k) = (if mFits S k s e = true ∧ ¬ mWeight S k < (mWin S s e k).2 then (nI k, mWeight S k) else mWin S s e k)
    rw [f1, f2, mWin_c h k]
section P3
variable {l : Launch} {D : va_G} {ad : Nat → Nat} {tc : Nat → ClassId} {L : Nat} {xs : Nat → Int32} {S : jS} {E : List j_C} {sl : Nat}
set_option maxRecDepth 20000 in
theorem lp_X6_check {n nr nc nk e : Nat} (hT : Told S n nr nc nk) (he : e < n) : ∀ j m : Nat, m + j = n → Rn l D ad tc L xs mX6_check 2 49 9 [(2, .int (nI m)), (0, .ref 39), (1, .int (nI e))] [] (wd (sChk S nr e m) E, sl) none (wd (sChk S nr e n) E, sl) := by
  obtain ⟨⟨hN, hn⟩, ⟨hR, hr⟩, -, -, hv, hnd, -, hck, -, hru⟩ := id hT
  intro j
  induction j with
  | zero =>
    intro m hm
    have hm' : m = n := by omega
    subst hm'
    refine rn_iload_n dX6_check_9 rfl ?_
    refine rn_aload_n dX6_check_10 rfl ?_
    refine rn_getfield dX6_check_11 fo_X6_24 h_paths rfl ?_
    refine rn_getfield dX6_check_14 fo_X6_32 h_chip rfl ?_
    rw [show sI (sChk S nr e _) 1 6 = _ from hN]
    refine rn_icmp_ge (tgt := 119) dX6_check_17 rfl (fun _ => ?_) (fun q1 => absurd (by exact Int32.le_refl _) q1)
    exact rn_ret dX6_check_119 trivial rfl
  | succ j ih =>
    intro m hm
    have ih := ih (m + 1) (by omega)
    have hnd1 := (hnd e he).2.1
    obtain ⟨p, hp1, hp⟩ := (hck _ (hv m (by omega))).1
    obtain ⟨q, hq1, hq⟩ := (hck _ (hv e (by omega))).1
    have hgap : nI (Nat.gcd p q) + (mSort S m e nr - 1) * nI q = mGap S m e nr := by unfold mGap; rw [hp, hq, nI_clamp (by omega), nI_clamp (by omega)]
    refine rn_iload_n dX6_check_9 rfl ?_
    refine rn_aload_n dX6_check_10 rfl ?_
    refine rn_getfield dX6_check_11 fo_X6_24 h_paths rfl ?_
    refine rn_getfield dX6_check_14 fo_X6_32 h_chip rfl ?_
    rw [show sI (sChk S nr e _) 1 6 = _ from hN]
    refine rn_icmp_ge (tgt := 119) dX6_check_17 rfl (fun q1 => absurd q1 (by rw [Int32.le_iff_toInt_le, nI_toInt (by omega), nI_toInt (by omega)] at q1; omega)) (fun _ => ?_)
    refine rn_aload_n dX6_check_20 rfl ?_
    refine rn_iload_n dX6_check_21 rfl ?_
    refine rn_iload_n dX6_check_22 rfl ?_
    refine rn_callV dX6_check_23 cv_X6_69 (c_X6_comesTo (n := n) hn he hnd1) rfl h_paths rfl rfl (by decide) (by decide) rfl (Nat.le_of_ble_eq_true rfl) ?_
    refine rn_if_eq (tgt := 113) dX6_check_26 rfl (fun q2 => ?_) (fun q2 => ?_)
    · rw [bI_0] at q2
      replace q2 : mCome S (S.2.1 39) m e = false := q2
      have hcf : mChk S (S.2.1 39) nr m e = false := by unfold mChk; rw [q2]; rfl
      rw [← sChk_f (by omega) hcf]
      exact rn_iinc dX6_check_113 rfl (nI_1 _) (by decide) rfl (rn_goto (tgt := 9) dX6_check_116 rfl (rn_subg rfl ih))
    · rw [bI_n] at q2
      replace q2 : mCome S (S.2.1 39) m e = true := q2
      refine rn_aload_n dX6_check_29 rfl ?_
      refine rn_getfield dX6_check_30 fo_X6_24 h_paths rfl ?_
      refine rn_iload_n dX6_check_33 rfl ?_
      refine rn_iload_n dX6_check_34 rfl ?_
      refine rn_callV dX6_check_35 cv_X6_73 (c_X1_isOneGroup (by omega) (by omega) hv) rfl h_chip rfl rfl (by decide) (by decide) rfl (Nat.le_of_ble_eq_true rfl) ?_
      refine rn_if_eq (tgt := 113) dX6_check_38 rfl (fun q3 => ?_) (fun q3 => ?_)
      · rw [bI_0] at q3
        replace q3 : mGrp S m e = false := q3
        have hcf : mChk S (S.2.1 39) nr m e = false := by unfold mChk; rw [q2, q3]; rfl
        rw [← sChk_f (by omega) hcf]
        exact rn_iinc dX6_check_113 rfl (nI_1 _) (by decide) rfl (rn_goto (tgt := 9) dX6_check_116 rfl (rn_subg rfl ih))
      · rw [bI_n] at q3
        replace q3 : mGrp S m e = true := q3
        refine rn_aload_n dX6_check_41 rfl ?_
        refine rn_getfield dX6_check_42 fo_X6_24 h_paths rfl ?_
        refine rn_iload_n dX6_check_45 rfl ?_
        refine rn_iload_n dX6_check_46 rfl ?_
        refine rn_callV dX6_check_47 cv_X6_76 (c_X1_winnerOf hR hr) rfl h_chip rfl rfl (by decide) (by decide) rfl (Nat.le_of_ble_eq_true rfl) ?_
        rw [mWin_c (S := S) (S' := sChk S nr e m) rfl nr]
        refine rn_istore_n dX6_check_50 (by decide) rfl ?_
        refine rn_iload_n dX6_check_51 rfl ?_
        refine rn_iconst (v := (-1)) dX6_check_52 rfl ?_
        refine rn_icmp_ne (tgt := 60) dX6_check_53 rfl (fun q4 => ?_) (fun q4 => ?_)
        · replace q4 : ¬ (mWin S (nI m) (nI e) nr).1 = -1 := q4
          obtain ⟨i, hi, hwi⟩ := (mWin_r S (nI m) (nI e) nr).resolve_left q4
          have hsort : sI S (i + 29) 0 = mSort S m e nr := by unfold mSort; rw [if_neg q4, hwi, nI_clamp (by omega)]
          refine rn_aload_n dX6_check_60 rfl ?_
          refine rn_getfield dX6_check_61 fo_X6_24 h_paths rfl ?_
          
          refine rn_getfield dX6_check_64 fo_X6_80 h_chip rfl ?_
          refine rn_iload_n dX6_check_67 rfl ?_
          rw [hwi]
          refine rn_aaload dX6_check_68 h_rules rfl (vp_in_nI (by omega) (by decide)) (refs_at rfl (by omega) (by decide)) ?_
          refine rn_getfield dX6_check_69 fo_X6_84 (h_rule (by omega)) rfl ?_
          refine rn_topi (y := mSort S m e nr) hsort ?_
          refine rn_istore dX6_check_72 (by decide) rfl ?_
          refine rn_iload dX6_check_74 rfl ?_
          refine rn_if_eq (tgt := 113) dX6_check_76 rfl (fun q5 => ?_) (fun q5 => ?_)
          · have hcf : mChk S (S.2.1 39) nr m e = false := by unfold mChk; rw [q2, q3, decide_eq_false (fun z => z q5)]; rfl
            rw [← sChk_f (by omega) hcf]
            exact rn_iinc dX6_check_113 rfl (nI_1 _) (by decide) rfl (rn_goto (tgt := 9) dX6_check_116 rfl (rn_subg rfl ih))
          · have hct : mChk S (S.2.1 39) nr m e = true := by unfold mChk; rw [q2, q3, decide_eq_true q5]; rfl
            refine rn_aload_n dX6_check_79 rfl ?_
            refine rn_getfield dX6_check_80 fo_X6_15 h_paths rfl ?_
            refine rn_iload_n dX6_check_83 rfl ?_
            refine rn_dup2 dX6_check_84 rfl rfl ?_
            refine rn_iaload dX6_check_85 h_checked rfl (vp_in_nI (by omega) (by decide)) ?_
            rw [nI_clamp (by omega)]
            refine rn_iconst (v := 1) dX6_check_86 rfl ?_
            refine rn_iload_n dX6_check_87 rfl ?_
            refine rn_ishl dX6_check_88 ?_
            refine rn_ior dX6_check_89 ?_
            refine rn_pA dX6_check_90 (by decide) rfl (fun _ => rfl) (vp_in_nI (by omega) (by decide)) ?_
            rw [nI_clamp (by omega)]
            refine rn_aload_n dX6_check_91 rfl ?_
            refine rn_getfield dX6_check_92 fo_X6_21 h_paths rfl ?_
            refine rn_iload_n dX6_check_95 rfl ?_
            refine rn_bipush (v := nI 16) dX6_check_96 (by decide) ?_
            refine rn_imul dX6_check_98 ?_
            refine rn_topi (nI_mul _ _) ?_
            refine rn_iload_n dX6_check_99 rfl ?_
            refine rn_iadd dX6_check_100 ?_
            refine rn_topi (nI_add _ _) ?_
            refine rn_aload_n dX6_check_101 rfl ?_
            refine rn_getfield dX6_check_102 fo_X6_24 h_paths rfl ?_
            refine rn_iload_n dX6_check_105 rfl ?_
            refine rn_iload_n dX6_check_106 rfl ?_
            refine rn_iload dX6_check_107 rfl ?_
            refine rn_callV dX6_check_109 cv_X6_89 (c_X1_gapOf (by omega) (by omega) hv hp hq (by omega) (by omega)) rfl h_chip rfl rfl (by decide) (by decide) rfl (Nat.le_of_ble_eq_true rfl) ?_
            refine rn_topi (y := mGap S m e nr) hgap ?_
            refine rn_pA dX6_check_112 (by decide) rfl (fun _ => rfl) (vp_in_nI (by omega) (by decide)) ?_
            rw [nI_clamp (by omega)]
            refine rn_eq (congrArg (fun x => (wd x E, sl)) (sChk_t' (by omega) hct)) ?_
            exact rn_iinc dX6_check_113 rfl (nI_1 _) (by decide) rfl (rn_goto (tgt := 9) dX6_check_116 rfl (rn_subg rfl ih))
        · replace q4 : (mWin S (nI m) (nI e) nr).1 = -1 := q4
          have hsort : (1 : Int32) = mSort S m e nr := by unfold mSort; rw [if_pos q4]
          refine rn_iconst (v := 1) dX6_check_56 rfl ?_
          refine rn_goto (tgt := 72) dX6_check_57 rfl ?_
          refine rn_topi (y := mSort S m e nr) hsort ?_
          refine rn_istore dX6_check_72 (by decide) rfl ?_
          refine rn_iload dX6_check_74 rfl ?_
          refine rn_if_eq (tgt := 113) dX6_check_76 rfl (fun q6 => ?_) (fun q6 => ?_)
          · have hcf : mChk S (S.2.1 39) nr m e = false := by unfold mChk; rw [q2, q3, decide_eq_false (fun z => z q6)]; rfl
            rw [← sChk_f (by omega) hcf]
            exact rn_iinc dX6_check_113 rfl (nI_1 _) (by decide) rfl (rn_goto (tgt := 9) dX6_check_116 rfl (rn_subg rfl ih))
          · have hct : mChk S (S.2.1 39) nr m e = true := by unfold mChk; rw [q2, q3, decide_eq_true q6]; rfl
            refine rn_aload_n dX6_check_79 rfl ?_
            refine rn_getfield dX6_check_80 fo_X6_15 h_paths rfl ?_
            refine rn_iload_n dX6_check_83 rfl ?_
            refine rn_dup2 dX6_check_84 rfl rfl ?_
            refine rn_iaload dX6_check_85 h_checked rfl (vp_in_nI (by omega) (by decide)) ?_
            rw [nI_clamp (by omega)]
            refine rn_iconst (v := 1) dX6_check_86 rfl ?_
            refine rn_iload_n dX6_check_87 rfl ?_
            refine rn_ishl dX6_check_88 ?_
            refine rn_ior dX6_check_89 ?_
            refine rn_pA dX6_check_90 (by decide) rfl (fun _ => rfl) (vp_in_nI (by omega) (by decide)) ?_
            rw [nI_clamp (by omega)]
            refine rn_aload_n dX6_check_91 rfl ?_
            refine rn_getfield dX6_check_92 fo_X6_21 h_paths rfl ?_
            refine rn_iload_n dX6_check_95 rfl ?_
            refine rn_bipush (v := nI 16) dX6_check_96 (by decide) ?_
            refine rn_imul dX6_check_98 ?_
            refine rn_topi (nI_mul _ _) ?_
            refine rn_iload_n dX6_check_99 rfl ?_
            refine rn_iadd dX6_check_100 ?_
            refine rn_topi (nI_add _ _) ?_
            refine rn_aload_n dX6_check_101 rfl ?_
            refine rn_getfield dX6_check_102 fo_X6_24 h_paths rfl ?_
            refine rn_iload_n dX6_check_105 rfl ?_
            refine rn_iload_n dX6_check_106 rfl ?_
            refine rn_iload dX6_check_107 rfl ?_
            refine rn_callV dX6_check_109 cv_X6_89 (c_X1_gapOf (by omega) (by omega) hv hp hq (by omega) (by omega)) rfl h_chip rfl rfl (by decide) (by decide) rfl (Nat.le_of_ble_eq_true rfl) ?_
            refine rn_topi (y := mGap S m e nr) hgap ?_
            refine rn_pA dX6_check_112 (by decide) rfl (fun _ => rfl) (vp_in_nI (by omega) (by decide)) ?_
            rw [nI_clamp (by omega)]
            refine rn_eq (congrArg (fun x => (wd x E, sl)) (sChk_t' (by omega) hct)) ?_
            exact rn_iinc dX6_check_113 rfl (nI_1 _) (by decide) rfl (rn_goto (tgt := 9) dX6_check_116 rfl (rn_subg rfl ih))
set_option maxRecDepth 20000 in
theorem c_X6_check {n nr nc nk e : Nat} (hT : Told S n nr nc nk) (he : e < n) : Cn l D ad tc L xs mX6_check 2 49 [.ref 39, .int (nI e)] (wd S E, sl) none (wd (sChk S nr e n) E, sl) := by
  refine cn_of (lv0 := [(0, .ref 39), (1, .int (nI e))]) (by decide +kernel) rfl (fun _ => by simp [lg_sl, j_v, Value.category]) (fun _ => rfl) ?_
  have hn := hT.1.2
  refine rn_aload_n dX6_check_0 rfl ?_
  refine rn_getfield dX6_check_1 fo_X6_15 h_paths rfl ?_
  refine rn_iload_n dX6_check_4 rfl ?_
  refine rn_iconst (v := 0) dX6_check_5 rfl ?_
  refine rn_pA dX6_check_6 (by decide) rfl (fun _ => rfl) (vp_in_nI (by omega) (by decide)) ?_
  rw [nI_clamp (by omega)]
  refine rn_iconst (v := 0) dX6_check_7 rfl ?_
  refine rn_istore_n dX6_check_8 (by decide) rfl ?_
  rw [← sChk_0 (nr := nr)]
  exact rn_subg rfl (lp_X6_check hT he n 0 (by omega))
end P3
