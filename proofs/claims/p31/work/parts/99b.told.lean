/-! Telling, for the law: what it keeps, without the exact states -/
def CI (S : jS) (n nr nc nk : Nat) : Prop := Told S n nr nc nk ∧ sI S 0 2 = 0 ∧ ∀ j, j < 7 → Grid S j
/-- the first m nodes keep kind and clock -/
def KS (S S' : jS) (m : Nat) : Prop := ∀ i, i < m → kd S' i = kd S i ∧ sV S' i = sV S i
theorem KS_t {S S' S2 : jS} {m : Nat} (h : KS S S' m) (h2 : KS S' S2 m) : KS S S2 m := fun i hi => ⟨(h2 i hi).1.trans (h i hi).1, (h2 i hi).2.trans (h i hi).2⟩
theorem KS_le {S S' : jS} {m k : Nat} (h : KS S S' m) (hk : k ≤ m) : KS S S' k := fun i hi => h i (by omega)
theorem KS_fg (S : jS) : KS S (sForget S) 16 := fun i hi => ⟨(TS_forget S).1 _ _ (by omega), congrFun (TS_forget S).2.2.2 i⟩
theorem Grid_0 {S S' : jS} (h : ∀ a, 50 ≤ a → sD S' a = sD S a) (hg : ∀ j, j < 7 → Grid S j) : ∀ j, j < 7 → Grid S' j := fun j hj => Grid_c (fun a h1 _ => h a (by omega)) (hg j hj)
theorem fg_D (S : jS) (a : Nat) : sD (sForget S) a = sD S a := rfl
theorem fg_02 {S : jS} (h : sI S 0 2 = 0) : sI (sForget S) 0 2 = 0 := ((TS_forget S).1 0 2 (by decide)).trans h
theorem Tw_of {S : jS} {n nr nc nk : Nat} (hT : Told S n nr nc nk) : ∃ w, Tw S w := by
  have h := hT.2.2.2.2.2.2.1
  refine ⟨fun i => if hi : i < 16 then Classical.choose (h i hi).2.1 else 0, fun i hi => ?_⟩
  simp only [dif_pos hi]
  exact Classical.choose_spec (h i hi).2.1
theorem sDelays_D {S : jS} {w : Nat → Nat} {n a : Nat} (ha : 50 ≤ a) : sD (sDelays S w n 43) a = sD S a := by
  unfold sDelays
  split
  · exact up1_ne S.2.2.1 _ (show a ≠ 45 by omega)
  · rfl
theorem nI_bd {a b x : Nat} {p q : Int32} (hp : nI a = p) (hq : nI b = q) (h1 : a ≤ x) (h2 : x ≤ b) (hb : b < 2 ^ 31) : p ≤ nI x ∧ nI x ≤ q := by
  rw [← hp, ← hq]
  exact ⟨nI_le h1 (by omega), nI_le h2 hb⟩
theorem sh_3 : ∀ q, q < 3 → ((1 : Int32) <<< (nI q &&& 31) = 1 ∨ (1 : Int32) <<< (nI q &&& 31) = 2 ∨ (1 : Int32) <<< (nI q &&& 31) = 4) := by decide +kernel
theorem kd_nod {S : jS} {n i : Nat} {K b c d : Int32} : kd (sNod S n K b c d) i = if i = n then K else kd S i := by
  by_cases e : i = n
  · subst e
    simp [kd, sNod, sNod0, pI_if]
  · simp [kd, sNod, sNod0, pI_if, e]
theorem kd_nodC {S : jS} {n i v : Nat} {K b c : Int32} : kd (sNodC S n K b c v) i = if i = n then K else kd S i := by
  by_cases e : i = n
  · subst e
    simp [kd, sNodC, sNod0, pI_if, pV_sI]
  · simp [kd, sNodC, sNod0, pI_if, pV_sI, e]
theorem sV_nodC {S : jS} {n i v : Nat} {K b c : Int32} : sV (sNodC S n K b c v) i = if i = n then v else sV S i := rfl
section CT
variable {l : Launch} {D : va_G} {ad : Nat → Nat} {tc : Nat → ClassId} {L : Nat} {xs : Nat → Int32} {S : jS} {E : List j_C} {sl : Nat}
theorem k_clock {n nc v x y z : Nat} {g : Int32} (h : CI S n 0 nc v) (hv : v < 4) (hx : 4 ≤ x ∧ x ≤ 40) (hy : y ≤ 40) (hz : z ≤ 20) (hg : g = 0 ∨ g = 1) : ∃ S', CI S' n 0 nc (v + 1) ∧ KS S S' 16 ∧ (∀ u f, u < v → sI S' (u + 6) f = sI S (u + 6) f) ∧ (sI S' (v + 6) 0 = nI x ∧ sI S' (v + 6) 1 = nI y ∧ sI S' (v + 6) 2 = nI z) ∧ Cn l D ad tc L xs mX9_clock 1 26 [.ref 1, .int (nI x), .int (nI y), .int (nI z), .int g] (wd S E, sl) (some (.int (nI v))) (wd S' E, sl) := by
  refine ⟨_, ⟨T_clk (T_fg h.1) hv (by omega) (by omega) hz, ?_, Grid_0 (fun a _ => rfl) h.2.2⟩, fun i hi => ⟨?_, congrFun (TS_forget S).2.2.2 i⟩, fun u f hu => ?_, ⟨by simp [sClk, pI_if], by simp [sClk, pI_if], by simp [sClk, pI_if]⟩, c_X9_clock h.2.1 h.1.2.2.2.1.1 hv (nI_bd (a := 4) (b := 40) (by decide) (by decide) hx.1 hx.2 (by decide)) (nI_bd (a := 0) (b := 40) (by decide) (by decide) (by omega) hy (by decide)) (nI_bd (a := 0) (b := 20) (by decide) (by decide) (by omega) hz (by decide)) (by rcases hg with rfl | rfl <;> decide)⟩
  · have := fg_02 h.2.1
    simp only [sClk, pI_if, show ¬ (0 = 1 ∧ 2 = 4) by decide, show ¬ (0 = v + 6) by omega, false_and, if_false]
    exact this
  · have := (TS_forget S).1 (i + 13) 0 (by omega)
    show sI _ (i + 13) 0 = _
    simp only [sClk, pI_if, show ¬ (i + 13 = 1) by omega, show ¬ (i + 13 = v + 6) by omega, false_and, if_false]
    exact this
  · have := (TS_forget S).1 (u + 6) f (by omega)
    simp only [sClk, pI_if, show ¬ (u + 6 = 1) by omega, show ¬ (u + 6 = v + 6) by omega, false_and, if_false]
    exact this
theorem k_divide {n nc v c x y p q u : Nat} (h : CI S n 0 nc v) (hv : v < 4) (hc : c < v) (hx : 2 ≤ x ∧ x ≤ 4) (hy : y ≤ 20) (h0 : sI S (c + 6) 0 = nI p ∧ sI S (c + 6) 1 = nI q ∧ sI S (c + 6) 2 = nI u) (hp : p ≤ 40) (hq : q ≤ 40) (hu : u ≤ 20) : ∃ S', CI S' n 0 nc (v + 1) ∧ KS S S' 16 ∧ Cn l D ad tc L xs mX9_divide 1 26 [.ref 1, .int (nI c), .int (nI x), .int (nI y)] (wd S E, sl) (some (.int (nI v))) (wd S' E, sl) := by
  have K := c_X9_divide (l := l) (D := D) (ad := ad) (tc := tc) (L := L) (xs := xs) (E := E) (sl := sl) (a := nI x) (b := nI y) h.2.1 h.1.2.2.2.1.1 hv hc (nI_bd (a := 2) (b := 4) (by decide) (by decide) hx.1 hx.2 (by decide)) (nI_bd (a := 0) (b := 20) (by decide) (by decide) (by omega) hy (by decide))
  rw [h0.1, h0.2.1, h0.2.2, nI_mul, nI_add] at K
  have hpx : p * x ≤ 40 * 4 := Nat.mul_le_mul hp hx.2
  refine ⟨_, ⟨T_clk (T_fg h.1) hv (by omega) (by omega) hu, ?_, Grid_0 (fun a _ => rfl) h.2.2⟩, fun i hi => ⟨?_, congrFun (TS_forget S).2.2.2 i⟩, K⟩
  · have := fg_02 h.2.1
    simp only [sClk, pI_if, show ¬ (0 = 1 ∧ 2 = 4) by decide, show ¬ (0 = v + 6) by omega, false_and, if_false]
    exact this
  · have := (TS_forget S).1 (i + 13) 0 (by omega)
    show sI _ (i + 13) 0 = _
    simp only [sClk, pI_if, show ¬ (i + 13 = 1) by omega, show ¬ (i + 13 = v + 6) by omega, false_and, if_false]
    exact this
theorem k_corner {n nc nk x y : Nat} (h : CI S n 0 nc nk) (hc : nc < 3) (hx : 8 ≤ x ∧ x ≤ 16) (hy : 1 ≤ y ∧ y ≤ 8) : ∃ S', CI S' n 0 (nc + 1) nk ∧ KS S S' 16 ∧ (sI S' 38 5 = 0 ∧ sI S' 43 3 = 0 ∧ ∀ j, 1 ≤ j → j < 7 → sI S' (5 * j + 49) 8 = 0) ∧ Cn l D ad tc L xs mX9_corner 1 22 [.ref 1, .int (nI x), .int (nI y)] (wd S E, sl) (some (.int (nI nc))) (wd S' E, sl) := by
  refine ⟨_, ⟨T_cor (T_fg h.1) hc hx hy, ?_, Grid_0 (fun a ha => ?_) h.2.2⟩, fun i hi => ⟨?_, congrFun (TS_forget S).2.2.2 i⟩, ?_, c_X9_corner h.2.1 h.1.2.2.1.1 hc hx.2 (by omega) (nI_bd (a := 8) (b := 16) (by decide) (by decide) hx.1 hx.2 (by decide)) (nI_bd (a := 1) (b := 8) (by decide) (by decide) hy.1 hy.2 (by decide))⟩
  · have := fg_02 h.2.1
    simp only [sCor, pI_if, pD2_sI, show ¬ (0 = 1 ∧ 2 = 5) by decide, if_false]
    exact this
  · funext f
    simp only [sCor, pI_sD, pD2_if, show ¬ (a = nc + 10) by omega, false_and, if_false]
    rfl
  · have := (TS_forget S).1 (i + 13) 0 (by omega)
    show sI _ (i + 13) 0 = _
    simp only [sCor, pI_if, pD2_sI, show ¬ (i + 13 = 1) by omega, false_and, if_false]
    exact this
  · refine ⟨?_, ?_, fun j h1 h7 => ?_⟩
    · simp [sCor, pI_if, pD2_sI, sForget, sFg1]
    · simp [sCor, pI_if, pD2_sI, sForget, sFg1]
    · rcases (by omega : j = 1 ∨ j = 2 ∨ j = 3 ∨ j = 4 ∨ j = 5 ∨ j = 6) with rfl | rfl | rfl | rfl | rfl | rfl <;> simp [sCor, pI_if, pD2_sI, sForget, sFg1]
theorem k_size {n nc nk i : Nat} {z : Int32} (h : CI S n 0 nc nk) (hi : i < n) (hz : z = 1 ∨ z = 2 ∨ z = 4) : ∃ S' r, CI S' n 0 nc nk ∧ KS S S' 16 ∧ Cn l D ad tc L xs mX9_size 1 21 [.ref 1, .int (nI i), .int z] (wd S E, sl) (some (.int r)) (wd S' E, sl) := by
  have hn := h.1.1.2
  refine ⟨_, _, ⟨T_5 (T_fg h.1) hz, (pI_k (by omega)).trans (fg_02 h.2.1), Grid_0 (fun a _ => rfl) h.2.2⟩, fun k hk => ⟨(up2_f _ _ (by decide)).trans (KS_fg S k hk).1, (KS_fg S k hk).2⟩, c_X9_size h.2.1 h.1.1.1 hn hi hz⟩
theorem k_skew {n nc nk i w : Nat} (h : CI S n 0 nc nk) (hi : i < n) (hk : kd S i = 6 ∨ kd S i = 7) (hw : w ≤ 20) : ∃ S' r, CI S' n 0 nc nk ∧ KS S S' 16 ∧ Cn l D ad tc L xs mX9_skew 1 22 [.ref 1, .int (nI i), .int (nI w)] (wd S E, sl) (some (.int r)) (wd S' E, sl) := by
  have hn := h.1.1.2
  refine ⟨_, _, ⟨T_7 (T_fg h.1) hw, (pI_k (by omega)).trans (fg_02 h.2.1), Grid_0 (fun a _ => rfl) h.2.2⟩, fun k hk => ⟨(up2_f _ _ (by decide)).trans (KS_fg S k hk).1, (KS_fg S k hk).2⟩, c_X9_skew h.2.1 h.1.1.1 hn hi hk (nI_bd (a := 0) (b := 20) (by decide) (by decide) (by omega) hw (by decide))⟩
theorem k_feed {n nc nk i a : Nat} (h : CI S n 0 nc nk) (hi : i < n) (ha : a < n) (hk : kd S i = 6) (h8 : kd S a ≠ 8) : ∃ S' r, CI S' n 0 nc nk ∧ KS S S' 16 ∧ Cn l D ad tc L xs mX9_feed 1 21 [.ref 1, .int (nI i), .int (nI a)] (wd S E, sl) (some (.int r)) (wd S' E, sl) := by
  have hn := h.1.1.2
  refine ⟨_, _, ⟨T_1 (T_fg h.1) ((KS_fg S i (by omega)).1.trans hk) ha, (pI_k (by omega)).trans (fg_02 h.2.1), Grid_0 (fun a _ => rfl) h.2.2⟩, fun k hk => ⟨(up2_f _ _ (by decide)).trans (KS_fg S k hk).1, (KS_fg S k hk).2⟩, c_X9_feed h.2.1 h.1.1.1 hn hi ha hk h8⟩
theorem k_wire {n nc nk i q : Nat} (h : CI S n 0 nc nk) (hi : i < n) (hq : q ≤ 80) : ∃ S' r, CI S' n 0 nc nk ∧ KS S S' 16 ∧ Cn l D ad tc L xs mX9_wire 5 108 [.ref 1, .int (nI i), .int (nI q)] (wd S E, sl) (some (.int r)) (wd S' E, sl) := by
  have hn := h.1.1.2
  have hT := T_w (i0 := i) (T_fg h.1) hq
  obtain ⟨w, hw⟩ := Tw_of hT
  have t := TS_delays (pF2 (sForget S) (i + 13) 6 (fv (q : Nat))) w n (x := 43) (Or.inl rfl)
  refine ⟨_, _, ⟨Told_s t hT, (t.1 0 2 (by decide)).trans (fg_02 h.2.1), Grid_0 (fun a ha => sDelays_D ha) h.2.2⟩, fun k hk => ⟨(t.1 _ _ (by omega)).trans (KS_fg S k hk).1, (congrFun t.2.2.2 k).trans (KS_fg S k hk).2⟩, c_X9_wire h.2.1 h.1.1.1 hn hi hq (nI_bd (a := 0) (b := 80) (by decide) (by decide) (by omega) hq (by decide)) hT hw⟩
theorem k_ex {n nc nk : Nat} (h : CI S n 0 nc nk) : ∃ S', CI S' n 1 nc nk ∧ (sI S' 38 5 = 0 ∧ sI S' 43 3 = 0 ∧ ∀ j, 1 ≤ j → j < 7 → sI S' (5 * j + 49) 8 = 0) ∧ (sI S' 29 0 = 0 ∧ sI S' 29 1 = -1 ∧ sI S' 29 2 = -1) ∧ Cn l D ad tc L xs mX9_exception 1 24 [.ref 1, .int 0, .int (-1), .int (-1)] (wd S E, sl) (some (.int (nI 0))) (wd S' E, sl) := by
  refine ⟨_, ⟨T_rul (T_fg h.1) (by decide), ?_, Grid_0 (fun a _ => rfl) h.2.2⟩, ⟨?_, ?_, fun j h1 h7 => ?_⟩, ⟨?_, ?_, ?_⟩, c_X9_exception_all h.2.1 h.1.2.1.1 (by decide)⟩
  · have := fg_02 h.2.1
    simp only [sRul, pI_if, show ¬ (0 = 1 ∧ 2 = 7) by decide, show ¬ (0 = 0 + 29) by decide, false_and, if_false]
    exact this
  · simp [sRul, pI_if, sForget, sFg1]
  · simp [sRul, pI_if, sForget, sFg1]
  · rcases (by omega : j = 1 ∨ j = 2 ∨ j = 3 ∨ j = 4 ∨ j = 5 ∨ j = 6) with rfl | rfl | rfl | rfl | rfl | rfl <;> simp [sRul, pI_if, sForget, sFg1]
  · simp [sRul, pI_if]
  · simp [sRul, pI_if]
  · simp [sRul, pI_if]
def KV (K : Int32) : Prop := K = 0 ∨ K = 1 ∨ K = 2 ∨ K = 3 ∨ K = 4 ∨ K = 5 ∨ K = 6 ∨ K = 7 ∨ K = 8
theorem k_node {n nc nk a b v : Nat} {K : Int32} (h : CI S n 0 nc nk) (hn : n < 16) (hK : KV K) (ha : K ≠ 0 → K ≠ 6 → a < n ∧ b < n) (h8 : kd S a ≠ 8 ∧ kd S b ≠ 8) (hv : v < nk) : ∃ S', CI S' (n + 1) 0 nc nk ∧ KS S S' n ∧ kd S' n = K ∧ (K = 7 → sV S' n = v) ∧ Cn l D ad tc L xs mX9_node 2 46 [.ref 1, .int K, .int (nI a), .int (nI b), .int (nI v)] (wd S E, sl) (some (.int (nI n))) (wd S' E, sl) := by
  have hC := h.1.2.2.2.1
  have k0 : ∀ i, i < n → kd (sForget S) i = kd S i ∧ sV (sForget S) i = sV S i := fun i hi => KS_fg S i (by omega)
  have v4 : v < 4 := by omega
  unfold KV at hK
  rcases hK with rfl | rfl | rfl | rfl | rfl | rfl | rfl | rfl | rfl
  · refine ⟨_, ⟨T_nodC (T_fg h.1) hn (by decide) (Or.inl rfl) (Or.inl rfl) v4, ?_, Grid_0 (fun a _ => rfl) h.2.2⟩, fun i hi => ⟨?_, ?_⟩, ?_, fun z => absurd z (by decide), c_X9_node_0 h.2.1 h.1.1.1 hn hC.1 hC.2 hv⟩
    · have := fg_02 h.2.1
      simp only [sNodC, sNod0, pI_if, pV_sI, show ¬ (0 = 1 ∧ 2 = 6) by decide, show ¬ (0 = n + 13) by omega, false_and, if_false]
      exact this
    · rw [kd_nodC, if_neg (by omega)]
      exact (k0 i hi).1
    · rw [sV_nodC, if_neg (by omega)]
      exact (k0 i hi).2
    · rw [kd_nodC, if_pos rfl]
  · have q := ha (by decide) (by decide)
    refine ⟨_, ⟨T_nod (T_fg h.1) hn (by decide) (Or.inr ⟨a, q.1, rfl⟩) (Or.inl rfl), ?_, Grid_0 (fun a _ => rfl) h.2.2⟩, fun i hi => ⟨?_, ?_⟩, ?_, fun z => absurd z (by decide), c_X9_node_1 h.2.1 h.1.1.1 hn q.1 h8.1⟩
    · have := fg_02 h.2.1
      simp only [sNod, sNod0, pI_if, show ¬ (0 = 1 ∧ 2 = 6) by decide, show ¬ (0 = n + 13) by omega, false_and, if_false]
      exact this
    · rw [kd_nod, if_neg (by omega)]
      exact (k0 i hi).1
    · exact (k0 i hi).2
    · rw [kd_nod, if_pos rfl]
  · have q := ha (by decide) (by decide)
    refine ⟨_, ⟨T_nod (T_fg h.1) hn (by decide) (Or.inr ⟨a, q.1, rfl⟩) (Or.inl rfl), ?_, Grid_0 (fun a _ => rfl) h.2.2⟩, fun i hi => ⟨?_, ?_⟩, ?_, fun z => absurd z (by decide), c_X9_node_2 h.2.1 h.1.1.1 hn q.1 h8.1⟩
    · have := fg_02 h.2.1
      simp only [sNod, sNod0, pI_if, show ¬ (0 = 1 ∧ 2 = 6) by decide, show ¬ (0 = n + 13) by omega, false_and, if_false]
      exact this
    · rw [kd_nod, if_neg (by omega)]
      exact (k0 i hi).1
    · exact (k0 i hi).2
    · rw [kd_nod, if_pos rfl]
  · have q := ha (by decide) (by decide)
    refine ⟨_, ⟨T_nod (T_fg h.1) hn (by decide) (Or.inr ⟨a, q.1, rfl⟩) (Or.inr ⟨b, q.2, rfl⟩), ?_, Grid_0 (fun a _ => rfl) h.2.2⟩, fun i hi => ⟨?_, ?_⟩, ?_, fun z => absurd z (by decide), c_X9_node_3 h.2.1 h.1.1.1 hn q.1 h8.1 q.2 h8.2⟩
    · have := fg_02 h.2.1
      simp only [sNod, sNod0, pI_if, show ¬ (0 = 1 ∧ 2 = 6) by decide, show ¬ (0 = n + 13) by omega, false_and, if_false]
      exact this
    · rw [kd_nod, if_neg (by omega)]
      exact (k0 i hi).1
    · exact (k0 i hi).2
    · rw [kd_nod, if_pos rfl]
  · have q := ha (by decide) (by decide)
    refine ⟨_, ⟨T_nod (T_fg h.1) hn (by decide) (Or.inr ⟨a, q.1, rfl⟩) (Or.inr ⟨b, q.2, rfl⟩), ?_, Grid_0 (fun a _ => rfl) h.2.2⟩, fun i hi => ⟨?_, ?_⟩, ?_, fun z => absurd z (by decide), c_X9_node_4 h.2.1 h.1.1.1 hn q.1 h8.1 q.2 h8.2⟩
    · have := fg_02 h.2.1
      simp only [sNod, sNod0, pI_if, show ¬ (0 = 1 ∧ 2 = 6) by decide, show ¬ (0 = n + 13) by omega, false_and, if_false]
      exact this
    · rw [kd_nod, if_neg (by omega)]
      exact (k0 i hi).1
    · exact (k0 i hi).2
    · rw [kd_nod, if_pos rfl]
  · have q := ha (by decide) (by decide)
    refine ⟨_, ⟨T_nod (T_fg h.1) hn (by decide) (Or.inr ⟨a, q.1, rfl⟩) (Or.inr ⟨b, q.2, rfl⟩), ?_, Grid_0 (fun a _ => rfl) h.2.2⟩, fun i hi => ⟨?_, ?_⟩, ?_, fun z => absurd z (by decide), c_X9_node_5 h.2.1 h.1.1.1 hn q.1 h8.1 q.2 h8.2⟩
    · have := fg_02 h.2.1
      simp only [sNod, sNod0, pI_if, show ¬ (0 = 1 ∧ 2 = 6) by decide, show ¬ (0 = n + 13) by omega, false_and, if_false]
      exact this
    · rw [kd_nod, if_neg (by omega)]
      exact (k0 i hi).1
    · exact (k0 i hi).2
    · rw [kd_nod, if_pos rfl]
  · refine ⟨_, ⟨T_nodC (T_fg h.1) hn (by decide) (Or.inl rfl) (Or.inl rfl) v4, ?_, Grid_0 (fun a _ => rfl) h.2.2⟩, fun i hi => ⟨?_, ?_⟩, ?_, fun z => absurd z (by decide), c_X9_node_6 h.2.1 h.1.1.1 hn hC.1 hC.2 hv⟩
    · have := fg_02 h.2.1
      simp only [sNodC, sNod0, pI_if, pV_sI, show ¬ (0 = 1 ∧ 2 = 6) by decide, show ¬ (0 = n + 13) by omega, false_and, if_false]
      exact this
    · rw [kd_nodC, if_neg (by omega)]
      exact (k0 i hi).1
    · rw [sV_nodC, if_neg (by omega)]
      exact (k0 i hi).2
    · rw [kd_nodC, if_pos rfl]
  · have q := ha (by decide) (by decide)
    refine ⟨_, ⟨T_nodC (T_fg h.1) hn (by decide) (Or.inr ⟨a, q.1, rfl⟩) (Or.inl rfl) v4, ?_, Grid_0 (fun a _ => rfl) h.2.2⟩, fun i hi => ⟨?_, ?_⟩, ?_, fun _ => ?_, c_X9_node_7 h.2.1 h.1.1.1 hn q.1 h8.1 hC.1 hC.2 hv⟩
    · have := fg_02 h.2.1
      simp only [sNodC, sNod0, pI_if, pV_sI, show ¬ (0 = 1 ∧ 2 = 6) by decide, show ¬ (0 = n + 13) by omega, false_and, if_false]
      exact this
    · rw [kd_nodC, if_neg (by omega)]
      exact (k0 i hi).1
    · rw [sV_nodC, if_neg (by omega)]
      exact (k0 i hi).2
    · rw [kd_nodC, if_pos rfl]
    · rw [sV_nodC, if_pos rfl]
  · have q := ha (by decide) (by decide)
    refine ⟨_, ⟨T_nodC (T_fg h.1) hn (by decide) (Or.inr ⟨a, q.1, rfl⟩) (Or.inl rfl) v4, ?_, Grid_0 (fun a _ => rfl) h.2.2⟩, fun i hi => ⟨?_, ?_⟩, ?_, fun z => absurd z (by decide), c_X9_node_8 h.2.1 h.1.1.1 hn q.1 h8.1 hC.1 hC.2 hv⟩
    · have := fg_02 h.2.1
      simp only [sNodC, sNod0, pI_if, pV_sI, show ¬ (0 = 1 ∧ 2 = 6) by decide, show ¬ (0 = n + 13) by omega, false_and, if_false]
      exact this
    · rw [kd_nodC, if_neg (by omega)]
      exact (k0 i hi).1
    · rw [sV_nodC, if_neg (by omega)]
      exact (k0 i hi).2
    · rw [kd_nodC, if_pos rfl]
end CT
