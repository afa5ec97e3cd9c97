/-! the law's loop over the corners of a node -/
theorem cmpI_le {a b : Int} : cmpI a b ≤ 0 ↔ a ≤ b := by
  rw [← Int32.not_lt, cmpI_gt]
  omega
theorem half {x : Int32} {p : Nat} (hx : x = nI p) (hp : p ≤ 1000) : FP.ddiv (dv (x.toInt * 4096)) 4611686018427387904 = dv (2048 * (p : Nat)) := by
  have h2 : (4611686018427387904 : UInt64) = FP.i2d 2 := by decide +kernel
  have e : x.toInt * 4096 = 2048 * (p : Nat) * (2 : Int32).toInt := by
    rw [hx, nI_toInt (by omega), show (2 : Int32).toInt = 2 by decide]
    omega
  rw [h2, e]
  refine dv_div ?_ (by decide)
  rw [show (2 : Int32).toInt = 2 by decide]
  exact dB_of (by omega) (by omega)
def lsX (Q : QC) (b : Bool) (i c : Nat) : Int := if enB Q.X i = true then lsC Q b i (lsE Q b i) c else lsE Q b i
theorem lsX_t {Q : QC} {b : Bool} {i c : Nat} (he : enB Q.X i = true) : lsX Q b i (c + 1) = min (lsX Q b i c) ((Q.T (jOf c b)).2.2.1 i) := by
  unfold lsX
  rw [if_pos he, if_pos he]
  rfl
theorem lsX_f {Q : QC} {b : Bool} {i c d : Nat} (he : enB Q.X i = false) : lsX Q b i c = lsX Q b i d := by
  unfold lsX
  rw [if_neg (by rw [he]; decide), if_neg (by rw [he]; decide)]
theorem lsX_r {Q : QC} {S : jS} {b : Bool} {i c : Nat} (h : Inq Q S) (hc : c ≤ 3) : -20000000 ≤ lsX Q b i c ∧ lsX Q b i c ≤ 409595904 := by
  unfold lsX
  split
  · exact lsC_r h (lsE_r h i) c hc
  · exact lsE_r h i
section LK
variable {l : Launch} {D : va_G} {ad : Nat → Nat} {tc : Nat → ClassId} {L : Nat} {xs : Nat → Int32} {S : jS} {E : List j_C} {sl : Nat} {sm : Int64} {Q : QC} {i c : Nat} {ck : Int32}
theorem lsX_2 {b : Bool} (h2 : Q.nc = 2) : lsX Q b i 2 = lsE Q b (i + 1) := by
  rw [← h2]
  rfl

set_option maxRecDepth 20000 in
theorem lp_197 (h11 : Q.n = 11) (h2 : Q.nc = 2) (hE : E.length = 23) (hR : RWs Q.X E 11) (hi : i < Q.n) (hc : c < Q.nc) (h : Inq Q S) : ∃ S2, Inq Q S2 ∧ ∀ (r : Option Value) (h' : j_H), Rn l D ad tc L xs mL_law 12 400 137 [(9, .int (nI (c + 1))), (8, .int (bI (enB Q.X i))), (6, .int ck), (7, .int (nI i)), (5, .ref 108), (3, .long sm), (2, .ref 85), (1, .ref 1), (0, .ref 0)] [] (wd S2 (E ++ [dl (lsX Q true i (c + 1)) (lsX Q false i (c + 1))]), sl) r h' → Rn l D ad tc L xs mL_law 12 400 197 [(9, .int (nI c)), (8, .int (bI (enB Q.X i))), (6, .int ck), (7, .int (nI i)), (5, .ref 108), (3, .long sm), (2, .ref 85), (1, .ref 1), (0, .ref 0)] [] (wd S (E ++ [dl (lsX Q true i c) (lsX Q false i c)]), sl) r h' := by
  have hc3 : c ≤ 3 := by omega
  rcases (show enB Q.X i = true ∨ enB Q.X i = false by cases enB Q.X i; exact Or.inr rfl; exact Or.inl rfl) with he | he
  ·
    have r0 := lsX_r (b := true) (i := i) h hc3
    have r1 := lsX_r (b := false) (i := i) h hc3
    obtain ⟨S1, h1, k1⟩ := lp_late (l := l) (D := D) (ad := ad) (tc := tc) (L := L) (xs := xs) (sl := sl) (sm := sm) (ck := ck) hE h hi hc he r0 r1
    obtain ⟨S2, h2', k2⟩ := lp_starts (l := l) (D := D) (ad := ad) (tc := tc) (L := L) (xs := xs) (sl := sl) (sm := sm) (ck := ck) (a5 := 108) (E := E ++ [dl (lsX Q true i (c + 1)) (lsX Q false i (c + 1))]) h11 (RWs_app hR) hi hc 11 0 (by decide) S1 h1
    refine ⟨S2, h2', fun r h' z => ?_⟩
    rw [← lsX_t he, ← lsX_t he] at k1
    have B : Rn l D ad tc L xs mL_law 12 400 248 [(9, .int (nI c)), (8, .int (bI (enB Q.X i))), (6, .int ck), (7, .int (nI i)), (5, .ref 108), (3, .long sm), (2, .ref 85), (1, .ref 1), (0, .ref 0)] [] (wd S1 (E ++ [dl (lsX Q true i (c + 1)) (lsX Q false i (c + 1))]), sl) r h' := by
      refine rn_iconst (v := nI 0) dL_law_248 (by decide) ?_
      refine rn_istore dL_law_249 (by decide) rfl ?_
      refine rn_subg rfl (k2 r h' ?_)
      refine rn_iinc dL_law_293 rfl (nI_1 _) (by decide) rfl ?_
      refine rn_goto (tgt := 137) dL_law_296 rfl ?_
      exact rn_subg rfl z
    refine rn_iconst (v := nI 0) dL_law_197 (by decide) ?_
    refine rn_istore dL_law_198 (by decide) rfl ?_
    exact rn_subg rfl (k1 r h' B)
  ·
    obtain ⟨S2, h2', k2⟩ := lp_starts (l := l) (D := D) (ad := ad) (tc := tc) (L := L) (xs := xs) (sl := sl) (sm := sm) (ck := ck) (a5 := 108) (E := E ++ [dl (lsX Q true i (c + 1)) (lsX Q false i (c + 1))]) h11 (RWs_app hR) hi hc 11 0 (by decide) S h
    refine ⟨S2, h2', fun r h' z => ?_⟩
    rw [lsX_f (c := c) (d := c + 1) he, lsX_f (b := false) (c := c) (d := c + 1) he]
    have B : Rn l D ad tc L xs mL_law 12 400 248 [(9, .int (nI c)), (8, .int (bI (enB Q.X i))), (6, .int ck), (7, .int (nI i)), (5, .ref 108), (3, .long sm), (2, .ref 85), (1, .ref 1), (0, .ref 0)] [] (wd S (E ++ [dl (lsX Q true i (c + 1)) (lsX Q false i (c + 1))]), sl) r h' := by
      refine rn_iconst (v := nI 0) dL_law_248 (by decide) ?_
      refine rn_istore dL_law_249 (by decide) rfl ?_
      refine rn_subg rfl (k2 r h' ?_)
      refine rn_iinc dL_law_293 rfl (nI_1 _) (by decide) rfl ?_
      refine rn_goto (tgt := 137) dL_law_296 rfl ?_
      exact rn_subg rfl z
    refine rn_iconst (v := nI 0) dL_law_197 (by decide) ?_
    refine rn_istore dL_law_198 (by decide) rfl ?_
    exact rn_subg rfl (lp_lateN he r h' B)
end LK
