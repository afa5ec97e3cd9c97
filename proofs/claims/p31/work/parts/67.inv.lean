/-! The told part and the tables: what the calls keep -/
theorem Told_k {S S' : jS} {n nr nc nk : Nat} (h1 : ∀ k f, k < 35 → S'.1 k f = S.1 k f) (hD : ∀ k f, k < 13 → S'.2.2.1 k f = S.2.2.1 k f) (hF : ∀ k f, k < 35 → S'.2.2.2.1 k f = S.2.2.2.1 k f) (hV : S'.2.2.2.2 = S.2.2.2.2) (h : Told S n nr nc nk) : Told S' n nr nc nk := by
  obtain ⟨⟨a1, a2⟩, ⟨b1, b2⟩, ⟨c1, c2⟩, ⟨d1, d2⟩, e, f, g, i, c, r⟩ := h
  refine ⟨⟨(h1 1 6 (by decide)).trans a1, a2⟩, ⟨(h1 1 7 (by decide)).trans b1, b2⟩, ⟨(h1 1 5 (by decide)).trans c1, c2⟩, ⟨(h1 1 4 (by decide)).trans d1, d2⟩, ?_, ?_, ?_, ?_, ?_, ?_⟩
  · intro k hk
    rw [show sV S' = sV S from hV]
    exact e k hk
  · intro k hk
    have hq := f k hk
    rw [show kd S' k = kd S k from h1 _ _ (by omega), show fe1 S' k = fe1 S k from h1 _ _ (by omega), show fe2 S' k = fe2 S k from h1 _ _ (by omega)]
    exact hq
  · intro k hk
    rw [show sI S' (k + 13) 5 = sI S (k + 13) 5 from h1 _ _ (by omega), show sF S' (k + 13) 6 = sF S (k + 13) 6 from hF _ _ (by omega), show sI S' (k + 13) 7 = sI S (k + 13) 7 from h1 _ _ (by omega)]
    exact g k hk
  · intro k hk
    rw [show sI S' (k + 6) 0 = sI S (k + 6) 0 from h1 _ _ (by omega), show sI S' (k + 6) 1 = sI S (k + 6) 1 from h1 _ _ (by omega), show sI S' (k + 6) 2 = sI S (k + 6) 2 from h1 _ _ (by omega)]
    exact i k hk
  · intro k hk
    rw [show sD S' (k + 10) 0 = sD S (k + 10) 0 from hD _ _ (by omega), show sD S' (k + 10) 1 = sD S (k + 10) 1 from hD _ _ (by omega)]
    exact c k hk
  · intro k hk
    rw [show sI S' (k + 29) 0 = sI S (k + 29) 0 from h1 _ _ (by omega)]
    exact r k hk
/-- the told parts of two states are one -/
def TS (S S' : jS) : Prop := (∀ k f, k < 35 → S'.1 k f = S.1 k f) ∧ (∀ k f, k < 13 → S'.2.2.1 k f = S.2.2.1 k f) ∧ (∀ k f, k < 35 → S'.2.2.2.1 k f = S.2.2.2.1 k f) ∧ S'.2.2.2.2 = S.2.2.2.2
theorem TS_r (S : jS) : TS S S := ⟨fun _ _ _ => rfl, fun _ _ _ => rfl, fun _ _ _ => rfl, rfl⟩
theorem TS_t {S S' S2 : jS} (h : TS S S') (h2 : TS S' S2) : TS S S2 := ⟨fun k f q => (h2.1 k f q).trans (h.1 k f q), fun k f q => (h2.2.1 k f q).trans (h.2.1 k f q), fun k f q => (h2.2.2.1 k f q).trans (h.2.2.1 k f q), h2.2.2.2.trans h.2.2.2⟩
theorem TS_s {S S' : jS} (h : TS S S') : TS S' S := ⟨fun k f q => (h.1 k f q).symm, fun k f q => (h.2.1 k f q).symm, fun k f q => (h.2.2.1 k f q).symm, h.2.2.2.symm⟩
theorem TS_I (S : jS) {k f : Nat} {v : Int32} (h : 35 ≤ k) : TS S (pI S k f v) := ⟨fun _ _ q => up2_k _ _ (by omega), fun _ _ _ => rfl, fun _ _ _ => rfl, rfl⟩
theorem TS_A (S : jS) (k : Nat) (g : Nat → Int32) : TS S (pA S k g) := ⟨fun _ _ _ => rfl, fun _ _ _ => rfl, fun _ _ _ => rfl, rfl⟩
theorem TS_D (S : jS) {k : Nat} (g : Nat → UInt64) (h : 13 ≤ k) : TS S (pD S k g) := ⟨fun _ _ _ => rfl, fun a _ q => congrFun (up1_ne S.2.2.1 g (show a ≠ k by omega)) _, fun _ _ _ => rfl, rfl⟩
theorem TS_F (S : jS) {k : Nat} (g : Nat → UInt32) (h : 35 ≤ k) : TS S (pF S k g) := ⟨fun _ _ _ => rfl, fun _ _ _ => rfl, fun a _ q => congrFun (up1_ne S.2.2.2.1 g (show a ≠ k by omega)) _, rfl⟩
theorem TS_T (S : jS) (j : Nat) (t : TT) : TS S (sT S j t) := ⟨fun _ _ _ => rfl, fun a _ q => congrFun (sT_o (by omega)) _, fun _ _ _ => rfl, rfl⟩
theorem Told_s {S S' : jS} {n nr nc nk : Nat} (h : TS S S') (hT : Told S n nr nc nk) : Told S' n nr nc nk := Told_k h.1 h.2.1 h.2.2.1 h.2.2.2 hT
theorem Tw_s {S S' : jS} {w : Nat → Nat} (h : TS S S') (hw : Tw S w) : Tw S' w := fun i hi => ⟨(hw i hi).1, (h.2.2.1 _ _ (by omega)).trans (hw i hi).2⟩
theorem TS_c {S S' : jS} (h1 : S'.1 = S.1) (h2 : S'.2.2 = S.2.2) : TS S S' := ⟨fun _ _ _ => by rw [h1], fun _ _ _ => by rw [h2], fun _ _ _ => by rw [h2], by rw [h2]⟩
theorem TS_paths (S : jS) (n nr : Nat) : TS S (sPaths S n nr) := by
  unfold sPaths
  split
  · exact TS_t (TS_c ((sChks_c _ _ _ _).1.trans (sPrep_c _ _ _).1) ((sChks_c _ _ _ _).2.trans (sPrep_c _ _ _).2)) (TS_I _ (by decide))
  · exact TS_r S
theorem TS_del (S : jS) (w : Nat → Nat) (n : Nat) {x : Nat} (h : x = 43 ∨ x = 46) : TS S (sDel S w n x) := TS_t (TS_F S _ (by omega)) (TS_D _ _ (by omega))
theorem TS_delays (S : jS) (w : Nat → Nat) (n : Nat) {x : Nat} (h : x = 43 ∨ x = 46) : TS S (sDelays S w n x) := by
  unfold sDelays
  split
  · exact TS_t (TS_del S w n h) (TS_I _ (by omega))
  · exact TS_r S
/-- the number of the grid that a double is -/
noncomputable def gd (x : UInt64) : Int := Classical.epsilon (fun n : Int => dB n ∧ dv n = x)
theorem dv_inj {a b : Int} (ha : dB a) (hb : dB b) (h : dv a = dv b) : a = b := by
  have h1 := dv_cmp ha hb
  rw [h, dv_cmp hb hb] at h1
  have h2 := Option.some.inj h1
  rw [show compare b b = Ordering.eq by simp] at h2
  exact (Int.compare_eq_eq.mp h2.symm)
theorem gd_dv {n : Int} (h : dB n) : gd (dv n) = n := by
  have he : ∃ m : Int, dB m ∧ dv m = dv n := ⟨n, h, rfl⟩
  have hs := Classical.epsilon_spec he
  exact dv_inj hs.1 h hs.2
noncomputable def tOf (S : jS) (j : Nat) : TT := (fun i => gd (sD S (5 * j + 50) i), fun i => gd (sD S (5 * j + 51) i), fun i => gd (sD S (5 * j + 52) i), fun i => gd (sD S (5 * j + 53) i))
def GT (S : jS) (j : Nat) (t : TT) : Prop := sD S (5 * j + 50) = (fun i => dv (t.1 i)) ∧ sD S (5 * j + 51) = (fun i => dv (t.2.1 i)) ∧ sD S (5 * j + 52) = (fun i => dv (t.2.2.1 i)) ∧ sD S (5 * j + 53) = (fun i => dv (t.2.2.2 i))
theorem GT_of {S : jS} {j : Nat} {t : TT} (h : GT S j t) (ht : okT t) : tOf S j = t := by
  obtain ⟨A, Z, M, BB⟩ := t
  obtain ⟨h1, h2, h3, h4⟩ := h
  obtain ⟨k1, k2, k3, k4⟩ := ht
  unfold tOf
  rw [h1, h2, h3, h4]
  congr 1
  · funext i
    have := okA_x k1 i
    exact gd_dv (dB_of (by omega) (by omega))
  · congr 1
    · funext i
      have := k2 i
      exact gd_dv (dB_of (by omega) (by omega))
    · congr 1
      · funext i
        have := k3 i
        exact gd_dv (dB_of (by omega) (by omega))
      · funext i
        have := k4 i
        exact gd_dv (dB_of (by omega) (by omega))
def Grid (S : jS) (j : Nat) : Prop := GT S j (tOf S j) ∧ okT (tOf S j)
theorem Grid_i {S : jS} {j : Nat} {t : TT} (h : GT S j t) (ht : okT t) : Grid S j := by
  unfold Grid
  rw [GT_of h ht]
  exact ⟨h, ht⟩
theorem GT_s (S : jS) (j : Nat) (t : TT) : GT (sT S j t) j t := ⟨sT_a S j t, sT_l S j t, sT_m S j t, sT_b S j t⟩
theorem sT_id {S : jS} {j : Nat} {t : TT} (h : GT S j t) : sT S j t = S := by
  obtain ⟨a, b, c, d⟩ := S
  unfold sT
  congr 2
  congr 1
  funext k
  obtain ⟨h1, h2, h3, h4⟩ := h
  by_cases e1 : k = 5 * j + 50
  · rw [if_pos e1, e1]; exact h1.symm
  · rw [if_neg e1]
    by_cases e2 : k = 5 * j + 51
    · rw [if_pos e2, e2]; exact h2.symm
    · rw [if_neg e2]
      by_cases e3 : k = 5 * j + 52
      · rw [if_pos e3, e3]; exact h3.symm
      · rw [if_neg e3]
        by_cases e4 : k = 5 * j + 53
        · rw [if_pos e4, e4]; exact h4.symm
        · rw [if_neg e4]
/-- the arrays of doubles from 49 on are those of another state -/
theorem Grid_c {S S' : jS} {j : Nat} (h : ∀ a, 5 * j + 50 ≤ a → a ≤ 5 * j + 53 → sD S' a = sD S a) (hg : Grid S j) : Grid S' j := by
  have ht : tOf S' j = tOf S j := by
    unfold tOf
    rw [h _ (by omega) (by omega), h _ (by omega) (by omega), h _ (by omega) (by omega), h _ (by omega) (by omega)]
  unfold Grid GT
  rw [ht, h _ (by omega) (by omega), h _ (by omega) (by omega), h _ (by omega) (by omega), h _ (by omega) (by omega)]
  exact hg
theorem sT_n {S : jS} {j a : Nat} {t : TT} (h : a < 5 * j + 50 ∨ 5 * j + 53 < a) : (sT S j t).2.2.1 a = S.2.2.1 a := by
  show ite _ _ _ = _
  rw [if_neg (by omega), if_neg (by omega), if_neg (by omega), if_neg (by omega)]
