/-! The bits of a row; what the paths' rows say -/
/-- bit s of a word -/
def bitW (x : Int32) (s : Nat) : Bool := decide ((x >>> (nI s &&& 31)) &&& 1 ≠ 0)
theorem bitR_W (R : Nat → Int32) (s i : Nat) : bitR R s i = bitW (R i) s := rfl
theorem bw_k {x k : Int32} : decide ((x >>> k) &&& 1 ≠ 0) = (x >>> k).toBitVec.getLsbD 0 := by
  have h : ((x >>> k) &&& 1 = 0) ↔ (x >>> k).toBitVec.getLsbD 0 = false := by
    rw [← Int32.toBitVec_inj]
    constructor
    · intro h
      have := congrArg (fun z => z.getLsbD 0) h
      simpa using this
    · intro h
      apply BitVec.eq_of_getLsbD_eq
      intro i hi
      have hone : (1 : Int32).toBitVec = 1#32 := rfl
      have hzero : (0 : Int32).toBitVec = 0#32 := rfl
      rw [Int32.toBitVec_and, BitVec.getLsbD_and, hone, hzero, BitVec.getLsbD_one, BitVec.getLsbD_zero]
      by_cases h0 : i = 0
      · subst h0
        rw [h]
        rfl
      · simp [h0]
  by_cases q : (x >>> k) &&& 1 = 0
  · rw [h.mp q]
    simp [q]
  · rw [show decide (¬ ((x >>> k) &&& 1 = 0)) = true by simp [q]]
    cases hb : (x >>> k).toBitVec.getLsbD 0
    · exact absurd (h.mpr hb) q
    · rfl
theorem bitW_at (x : Int32) {s : Nat} (hs : s < 16) : bitW x s = x.toBitVec.getLsbD s := by
  unfold bitW
  rw [bw_k]
  have h : ((nI s &&& 31).toBitVec.smod 32) = BitVec.ofNat 32 s := by
    revert s
    decide +kernel
  rw [Int32.toBitVec_shiftRight, h, BitVec.sshiftRight_eq', BitVec.getLsbD_sshiftRight]
  have h2 : (BitVec.ofNat 32 s).toNat = s := by simp; omega
  rw [h2]
  simp
  omega
theorem bitW_or (x y : Int32) {s : Nat} (hs : s < 16) : bitW (x ||| y) s = (bitW x s || bitW y s) := by
  rw [bitW_at _ hs, bitW_at _ hs, bitW_at _ hs, Int32.toBitVec_or, BitVec.getLsbD_or]
theorem bitW_one : ∀ m, m < 16 → ∀ s, s < 16 → bitW (1 <<< (nI m &&& 31)) s = decide (s = m) := by decide +kernel
theorem bitW_0 : ∀ s, s < 16 → bitW 0 s = false := by decide +kernel
/-! check's rows -/
theorem mChk_c {S S' : jS} (h1 : S'.1 = S.1) (h2 : S'.2.2 = S.2.2) {R : Nat → Int32} {nr s e : Nat} : mChk S' R nr s e = mChk S R nr s e := by
  obtain ⟨a, b, c⟩ := S
  obtain ⟨a', b', c'⟩ := S'
  cases h1
  cases h2
  unfold mChk mSort
  rw [mWin_c (S := (a, b, c)) (S' := (a, b', c)) rfl]
  rfl
theorem mGap_c {S S' : jS} (h1 : S'.1 = S.1) (h2 : S'.2.2 = S.2.2) {nr s e : Nat} : mGap S' s e nr = mGap S s e nr := by
  obtain ⟨a, b, c⟩ := S
  obtain ⟨a', b', c'⟩ := S'
  cases h1
  cases h2
  unfold mGap mSort
  rw [mWin_c (S := (a, b, c)) (S' := (a, b', c)) rfl]
theorem mCB_c {S S' : jS} (h1 : S'.1 = S.1) (h2 : S'.2.2 = S.2.2) {R : Nat → Int32} {nr e : Nat} : ∀ m, mCB S' R nr e m = mCB S R nr e m
  | 0 => rfl
  | m + 1 => by
    unfold mCB
    rw [mChk_c h1 h2, mCB_c h1 h2 m]
theorem mCB_bit {S : jS} {R : Nat → Int32} {nr e s : Nat} (hs : s < 16) : ∀ m, m ≤ 16 → bitW (mCB S R nr e m) s = (decide (s < m) && mChk S R nr s e)
  | 0, _ => by
    rw [show decide (s < 0) = false by simp, Bool.false_and]
    exact bitW_0 s hs
  | m + 1, h => by
    have ih := mCB_bit (S := S) (R := R) (nr := nr) (e := e) hs m (by omega)
    unfold mCB
    cases hc : mChk S R nr m e with
    | true =>
      rw [if_pos rfl, bitW_or _ _ hs, ih, bitW_one m (by omega) s hs]
      by_cases h1 : s = m
      · subst h1
        simp [hc]
      · by_cases h2 : s < m
        · simp [h1, h2, show s < m + 1 by omega]
        · simp [h1, h2, show ¬ s < m + 1 by omega]
    | false =>
      rw [if_neg (by decide), ih]
      by_cases h1 : s = m
      · subst h1
        simp [hc]
      · by_cases h2 : s < m
        · simp [h2, show s < m + 1 by omega]
        · simp [h2, show ¬ s < m + 1 by omega]
theorem sChks_39 (S : jS) (n nr : Nat) : ∀ m, (sChks S n nr m).2.1 39 = S.2.1 39
  | 0 => rfl
  | m + 1 => sChks_39 S n nr m
theorem sChks_41 (S : jS) (n nr : Nat) : ∀ m, (sChks S n nr m).2.1 41 = S.2.1 41
  | 0 => rfl
  | m + 1 => sChks_41 S n nr m
theorem sChks_40 (S : jS) (n nr e : Nat) : ∀ m, (sChks S n nr m).2.1 40 e = if e < m then mCB S (S.2.1 39) nr e n else S.2.1 40 e
  | 0 => rfl
  | m + 1 => by
    have ih := sChks_40 S n nr e m
    show upd ((sChks S n nr m).2.1 40) m (mCB (sChks S n nr m) ((sChks S n nr m).2.1 39) nr m n) e = _
    rw [sChks_39, mCB_c (sChks_c S n nr m).1 (sChks_c S n nr m).2]
    unfold upd
    by_cases h : e = m
    · subst h
      rw [if_pos rfl, if_pos (by omega)]
    · rw [if_neg h, ih]
      by_cases h2 : e < m
      · rw [if_pos h2, if_pos (by omega)]
      · rw [if_neg h2, if_neg (by omega)]
theorem sChks_42 (S : jS) (n nr x : Nat) : ∀ m, (sChks S n nr m).2.1 42 x = if x % 16 < m ∧ x / 16 < n ∧ mChk S (S.2.1 39) nr (x / 16) (x % 16) = true then mGap S (x / 16) (x % 16) nr else S.2.1 42 x
  | 0 => by rw [if_neg (fun z => absurd z.1 (by omega))]; rfl
  | m + 1 => by
    have ih := sChks_42 S n nr x m
    show gC (sChks S n nr m) ((sChks S n nr m).2.1 39) nr m ((sChks S n nr m).2.1 42) n x = _
    unfold gC
    rw [sChks_39, mChk_c (sChks_c S n nr m).1 (sChks_c S n nr m).2, mGap_c (sChks_c S n nr m).1 (sChks_c S n nr m).2, ih]
    by_cases h : x % 16 = m
    · by_cases h2 : x / 16 < n ∧ mChk S (S.2.1 39) nr (x / 16) m = true
      · rw [if_pos ⟨h, h2.1, h2.2⟩, if_pos ⟨by omega, h2.1, by rw [h]; exact h2.2⟩, h]
      · rw [if_neg (fun z => h2 z.2), if_neg (fun z => h2 ⟨z.2.1, by rw [← h]; exact z.2.2⟩), if_neg (fun z => h2 ⟨z.2.1, by rw [← h]; exact z.2.2⟩)]
    · rw [if_neg (fun z => h z.1)]
      by_cases h2 : x % 16 < m ∧ x / 16 < n ∧ mChk S (S.2.1 39) nr (x / 16) (x % 16) = true
      · rw [if_pos h2, if_pos ⟨by omega, h2.2⟩]
      · rw [if_neg h2, if_neg (fun z => h2 ⟨by omega, z.2⟩)]
theorem mSort_r {S : jS} {n nr nc nk s e : Nat} (hT : Told S n nr nc nk) : mSort S s e nr = 0 ∨ ∃ m : Nat, 1 ≤ m ∧ m ≤ 4 ∧ mSort S s e nr = nI m := by
  unfold mSort
  by_cases h : (mWin S (nI s) (nI e) nr).1 = -1
  · rw [if_pos h]
    exact Or.inr ⟨1, by decide, by decide, rfl⟩
  · rw [if_neg h]
    obtain ⟨i, hi, hw⟩ := (mWin_r S (nI s) (nI e) nr).resolve_left h
    have hnr := hT.2.1.2
    rw [hw, nI_clamp (by omega)]
    rcases hT.2.2.2.2.2.2.2.2.2 i (by omega) with h0 | ⟨m, h1, h2, h3⟩
    · exact Or.inl h0
    · exact Or.inr ⟨m, by omega, h2, h3⟩
theorem mGap_r {S : jS} {n nr nc nk s e : Nat} (hT : Told S n nr nc nk) (hs : s < 16) (he : e < 16) (h0 : mSort S s e nr ≠ 0) : ∃ k : Nat, k ≤ 1000 ∧ mGap S s e nr = nI k := by
  obtain ⟨m, h1, h2, h3⟩ := (mSort_r hT).resolve_left h0
  have hv := hT.2.2.2.2.1
  have hK := hT.2.2.2.2.2.2.2.1
  obtain ⟨p, hp1, hp2⟩ := (hK _ (hv s hs)).1
  obtain ⟨q, hq1, hq2⟩ := (hK _ (hv e he)).1
  unfold mGap
  rw [h3, hp2, hq2, nI_clamp (by omega), nI_clamp (by omega), show nI m - 1 = nI (m - 1) by
    rcases (show m = 1 ∨ m = 2 ∨ m = 3 ∨ m = 4 by omega) with rfl | rfl | rfl | rfl <;> decide, nI_mul, nI_add]
  refine ⟨_, ?_, rfl⟩
  have hg : Nat.gcd p q ≤ 160 := by
    by_cases hz : q = 0
    · subst hz
      rw [Nat.gcd_zero_right]
      exact hp1
    · have := Nat.gcd_le_right p (Nat.pos_of_ne_zero hz)
      omega
  have hm : (m - 1) * q ≤ 3 * 160 := Nat.mul_le_mul (by omega) hq1
  omega
/-- what check leaves holds what CkH asks -/
theorem CkH_chks {S : jS} {n nr nc nk : Nat} (hT : Told S n nr nc nk) {X : jS} (h1 : X.1 = S.1) (h2 : X.2.2 = S.2.2) {v : Int32} : CkH (pI (sChks X n nr n) 38 5 v) n := by
  have hn := hT.1.2
  have hX := Told_c h1 h2 hT
  intro s e hs he hb
  replace hb : bitW ((sChks X n nr n).2.1 40 e) s = true := hb
  rw [sChks_40, if_pos he, mCB_bit (by omega) n (by omega)] at hb
  simp only [Bool.and_eq_true, decide_eq_true_eq] at hb
  have hck := hb.2
  have hk2 := hck
  unfold mChk mCome at hk2
  simp only [Bool.and_eq_true, decide_eq_true_eq] at hk2
  have hfe : fe1 (pI (sChks X n nr n) 38 5 v) e = fe1 X e := by
    show up2 (sChks X n nr n).1 38 5 v (e + 13) 1 = _
    rw [up2_k _ _ (by omega), (sChks_c X n nr n).1]
  refine ⟨?_, ?_⟩
  · rw [hfe]
    exact (hX.2.2.2.2.2.1 e he).2.1.resolve_left hk2.1.1.1.2
  · show ∃ k : Nat, k ≤ 1000 ∧ (sChks X n nr n).2.1 42 (s * 16 + e) = nI k
    rw [sChks_42, show (s * 16 + e) % 16 = e by omega, show (s * 16 + e) / 16 = s by omega, if_pos ⟨he, hs, hck⟩]
    exact mGap_r hX (by omega) (by omega) hk2.2
theorem CkH_paths {S : jS} {n nr nc nk : Nat} (hT : Told S n nr nc nk) (h : sI S 38 5 = 0 ∨ CkH S n) : CkH (sPaths S n nr) n := by
  unfold sPaths
  by_cases h0 : sI S 38 5 = 0
  · rw [if_pos h0]
    exact CkH_chks hT (sPrep_c S n n).1 (sPrep_c S n n).2
  · rw [if_neg h0]
    exact h.resolve_left h0
