/-! Told again, after each telling -/
theorem pI_if {S : jS} {k f a b : Nat} {v : Int32} : sI (pI S k f v) a b = if a = k ∧ b = f then v else sI S a b := rfl
theorem pV_sI {S : jS} {i v a b : Nat} : sI (pV S i v) a b = sI S a b := rfl
theorem pD2_sI {S : jS} {k f a b : Nat} {v : UInt64} : sI (pD2 S k f v) a b = sI S a b := rfl
theorem pI_sD {S : jS} {k f a b : Nat} {v : Int32} : sD (pI S k f v) a b = sD S a b := rfl
theorem pD2_if {S : jS} {k f a b : Nat} {v : UInt64} : sD (pD2 S k f v) a b = if a = k ∧ b = f then v else sD S a b := rfl
theorem pIk_eq {S : jS} {k f : Nat} {v : Int32} : sI (pI S k f v) k f = v := if_pos ⟨rfl, rfl⟩
theorem pIk_k {S : jS} {k f a b : Nat} {v : Int32} (h : a ≠ k) : sI (pI S k f v) a b = sI S a b := if_neg fun z => h z.1
theorem pIk_f {S : jS} {k f a b : Nat} {v : Int32} (h : b ≠ f) : sI (pI S k f v) a b = sI S a b := if_neg fun z => h z.2
theorem s0_I {k f : Nat} : sI s0 k f = (if k = 1 then (if f = 5 then 1 else 0) else if k < 13 then 0 else if k < 29 then (if f = 5 then 1 else if f = 1 then -1 else if f = 2 then -1 else if f = 3 then -1 else 0) else if k < 35 then (if f = 1 then -1 else if f = 2 then -1 else 0) else 0 : Int32) := rfl
theorem s0_D {k f : Nat} : sD s0 k f = (if k < 10 then 0 else if k < 13 then FP.dconst1 else 0 : UInt64) := rfl
theorem s0_F {k f : Nat} : sF s0 k f = (if k < 13 then 0 else if k < 29 then (if f = 6 then FP.fconst1 else 0) else 0 : UInt32) := rfl
theorem T_fg {S : jS} {n nr nc nk : Nat} (hT : Told S n nr nc nk) : Told (sForget S) n nr nc nk := Told_s (TS_forget S) hT

theorem T_clk {S : jS} {n nr nc nk : Nat} {p la un : Nat} {g r : Int32} (hT : Told S n nr nc nk) (hk : nk < 4) (h1 : p ≤ 160) (h2 : la ≤ 100) (h3 : un ≤ 20) : Told (sClk S nk (nI p) (nI la) (nI un) g r) n nr nc (nk + 1) := by
  obtain ⟨a, b, c, d, e, f, z, o, q, u⟩ := hT
  have k : ∀ x y, x ≠ nk + 6 → ¬ (x = 1 ∧ y = 4) → sI (sClk S nk (nI p) (nI la) (nI un) g r) x y = sI S x y := by
    intro x y q1 q2
    simp only [sClk, sNod, sNodC, sNod0, sRul, sCor, pI_if, pV_sI, pD2_sI, q1, q2, false_and, if_false]
  refine ⟨⟨(k _ _ (by omega) (by omega)).trans a.1, a.2⟩, ⟨(k _ _ (by omega) (by omega)).trans b.1, b.2⟩, ⟨(k _ _ (by omega) (by omega)).trans c.1, c.2⟩, ⟨pIk_eq, by omega⟩, e, fun i hi => ?_, fun i hi => ?_, fun v hv => ?_, q, fun i hi => ?_⟩
  · rw [show kd (sClk S nk (nI p) (nI la) (nI un) g r) i = kd S i from k _ _ (by omega) (by omega), show fe1 (sClk S nk (nI p) (nI la) (nI un) g r) i = fe1 S i from k _ _ (by omega) (by omega), show fe2 (sClk S nk (nI p) (nI la) (nI un) g r) i = fe2 S i from k _ _ (by omega) (by omega)]
    exact f i hi
  · rw [show sI (sClk S nk (nI p) (nI la) (nI un) g r) (i + 13) 5 = sI S (i + 13) 5 from k _ _ (by omega) (by omega), show sI (sClk S nk (nI p) (nI la) (nI un) g r) (i + 13) 7 = sI S (i + 13) 7 from k _ _ (by omega) (by omega)]
    exact z i hi
  · by_cases e1 : v = nk
    · subst e1
      exact ⟨⟨p, h1, by simp [sClk, pI_if]⟩, ⟨la, h2, by simp [sClk, pI_if]⟩, ⟨un, h3, by simp [sClk, pI_if]⟩⟩
    · rw [show sI (sClk S nk (nI p) (nI la) (nI un) g r) (v + 6) 0 = sI S (v + 6) 0 from k _ _ (by omega) (by omega), show sI (sClk S nk (nI p) (nI la) (nI un) g r) (v + 6) 1 = sI S (v + 6) 1 from k _ _ (by omega) (by omega), show sI (sClk S nk (nI p) (nI la) (nI un) g r) (v + 6) 2 = sI S (v + 6) 2 from k _ _ (by omega) (by omega)]
      exact o v hv
  · rw [show sI (sClk S nk (nI p) (nI la) (nI un) g r) (i + 29) 0 = sI S (i + 29) 0 from k _ _ (by omega) (by omega)]
    exact u i hi
theorem T_nod {S : jS} {n nr nc nk : Nat} {K b1 c1 d1 : Int32} (hT : Told S n nr nc nk) (hn : n < 16) (hK : 0 ≤ K ∧ K ≤ 8) (hb : b1 = -1 ∨ ∃ x, x < n ∧ b1 = nI x) (hc : c1 = -1 ∨ ∃ x, x < n ∧ c1 = nI x) : Told (sNod S n K b1 c1 d1) (n + 1) nr nc nk := by
  obtain ⟨a, b, c, d, e, f, z, o, q, u⟩ := hT
  have k : ∀ x y, x ≠ n + 13 → ¬ (x = 1 ∧ y = 6) → sI (sNod S n K b1 c1 d1) x y = sI S x y := by
    intro x y q1 q2
    simp only [sClk, sNod, sNodC, sNod0, sRul, sCor, pI_if, pV_sI, pD2_sI, q1, q2, false_and, if_false]
  refine ⟨⟨pIk_eq, by omega⟩, ⟨(k _ _ (by omega) (by omega)).trans b.1, b.2⟩, ⟨(k _ _ (by omega) (by omega)).trans c.1, c.2⟩, ⟨(k _ _ (by omega) (by omega)).trans d.1, d.2⟩, e, fun i hi => ?_, fun i hi => ?_, fun v hv => ?_, q, fun i hi => ?_⟩
  · by_cases e1 : i = n
    · obtain rfl : n = i := e1.symm
      rw [show kd (sNod S n K b1 c1 d1) n = K by simp [kd, sNod, sNodC, sNod0, pI_if, pV_sI], show fe1 (sNod S n K b1 c1 d1) n = b1 by simp [fe1, sNod, sNodC, sNod0, pI_if, pV_sI], show fe2 (sNod S n K b1 c1 d1) n = c1 by simp [fe2, sNod, sNodC, sNod0, pI_if, pV_sI]]
      exact ⟨hK, hb.imp id (fun ⟨x, h, y⟩ => ⟨x, by omega, y⟩), fun _ => hb, hc⟩
    · rw [show kd (sNod S n K b1 c1 d1) i = kd S i from k _ _ (by omega) (by omega), show fe1 (sNod S n K b1 c1 d1) i = fe1 S i from k _ _ (by omega) (by omega), show fe2 (sNod S n K b1 c1 d1) i = fe2 S i from k _ _ (by omega) (by omega)]
      obtain ⟨f1, f2, f3, f4⟩ := f i (by omega)
      exact ⟨f1, f2.imp id (fun ⟨x, h, y⟩ => ⟨x, by omega, y⟩), f3, f4⟩
  · by_cases e1 : i = n
    · obtain rfl : n = i := e1.symm
      rw [show sI (sNod S n K b1 c1 d1) (n + 13) 5 = sI S (n + 13) 5 by simp [sNod, sNodC, sNod0, pI_if, pV_sI], show sI (sNod S n K b1 c1 d1) (n + 13) 7 = sI S (n + 13) 7 by simp [sNod, sNodC, sNod0, pI_if, pV_sI]]
      exact z _ hi
    · rw [show sI (sNod S n K b1 c1 d1) (i + 13) 5 = sI S (i + 13) 5 from k _ _ (by omega) (by omega), show sI (sNod S n K b1 c1 d1) (i + 13) 7 = sI S (i + 13) 7 from k _ _ (by omega) (by omega)]
      exact z i hi
  · rw [show sI (sNod S n K b1 c1 d1) (v + 6) 0 = sI S (v + 6) 0 from k _ _ (by omega) (by omega), show sI (sNod S n K b1 c1 d1) (v + 6) 1 = sI S (v + 6) 1 from k _ _ (by omega) (by omega), show sI (sNod S n K b1 c1 d1) (v + 6) 2 = sI S (v + 6) 2 from k _ _ (by omega) (by omega)]
    exact o v hv
  · rw [show sI (sNod S n K b1 c1 d1) (i + 29) 0 = sI S (i + 29) 0 from k _ _ (by omega) (by omega)]
    exact u i hi
theorem T_nodC {S : jS} {n nr nc nk : Nat} {v0 : Nat} {K b1 c1 : Int32} (hT : Told S n nr nc nk) (hn : n < 16) (hK : 0 ≤ K ∧ K ≤ 8) (hb : b1 = -1 ∨ ∃ x, x < n ∧ b1 = nI x) (hc : c1 = -1 ∨ ∃ x, x < n ∧ c1 = nI x) (hv0 : v0 < 4) : Told (sNodC S n K b1 c1 v0) (n + 1) nr nc nk := by
  obtain ⟨a, b, c, d, e, f, z, o, q, u⟩ := hT
  have k : ∀ x y, x ≠ n + 13 → ¬ (x = 1 ∧ y = 6) → sI (sNodC S n K b1 c1 v0) x y = sI S x y := by
    intro x y q1 q2
    simp only [sClk, sNod, sNodC, sNod0, sRul, sCor, pI_if, pV_sI, pD2_sI, q1, q2, false_and, if_false]
  refine ⟨⟨pIk_eq, by omega⟩, ⟨(k _ _ (by omega) (by omega)).trans b.1, b.2⟩, ⟨(k _ _ (by omega) (by omega)).trans c.1, c.2⟩, ⟨(k _ _ (by omega) (by omega)).trans d.1, d.2⟩, fun i hi => (by show (if i = n then v0 else S.2.2.2.2 i) < 4; split; exact hv0; exact e i hi), fun i hi => ?_, fun i hi => ?_, fun v hv => ?_, q, fun i hi => ?_⟩
  · by_cases e1 : i = n
    · obtain rfl : n = i := e1.symm
      rw [show kd (sNodC S n K b1 c1 v0) n = K by simp [kd, sNod, sNodC, sNod0, pI_if, pV_sI], show fe1 (sNodC S n K b1 c1 v0) n = b1 by simp [fe1, sNod, sNodC, sNod0, pI_if, pV_sI], show fe2 (sNodC S n K b1 c1 v0) n = c1 by simp [fe2, sNod, sNodC, sNod0, pI_if, pV_sI]]
      exact ⟨hK, hb.imp id (fun ⟨x, h, y⟩ => ⟨x, by omega, y⟩), fun _ => hb, hc⟩
    · rw [show kd (sNodC S n K b1 c1 v0) i = kd S i from k _ _ (by omega) (by omega), show fe1 (sNodC S n K b1 c1 v0) i = fe1 S i from k _ _ (by omega) (by omega), show fe2 (sNodC S n K b1 c1 v0) i = fe2 S i from k _ _ (by omega) (by omega)]
      obtain ⟨f1, f2, f3, f4⟩ := f i (by omega)
      exact ⟨f1, f2.imp id (fun ⟨x, h, y⟩ => ⟨x, by omega, y⟩), f3, f4⟩
  · by_cases e1 : i = n
    · obtain rfl : n = i := e1.symm
      rw [show sI (sNodC S n K b1 c1 v0) (n + 13) 5 = sI S (n + 13) 5 by simp [sNod, sNodC, sNod0, pI_if, pV_sI], show sI (sNodC S n K b1 c1 v0) (n + 13) 7 = sI S (n + 13) 7 by simp [sNod, sNodC, sNod0, pI_if, pV_sI]]
      exact z _ hi
    · rw [show sI (sNodC S n K b1 c1 v0) (i + 13) 5 = sI S (i + 13) 5 from k _ _ (by omega) (by omega), show sI (sNodC S n K b1 c1 v0) (i + 13) 7 = sI S (i + 13) 7 from k _ _ (by omega) (by omega)]
      exact z i hi
  · rw [show sI (sNodC S n K b1 c1 v0) (v + 6) 0 = sI S (v + 6) 0 from k _ _ (by omega) (by omega), show sI (sNodC S n K b1 c1 v0) (v + 6) 1 = sI S (v + 6) 1 from k _ _ (by omega) (by omega), show sI (sNodC S n K b1 c1 v0) (v + 6) 2 = sI S (v + 6) 2 from k _ _ (by omega) (by omega)]
    exact o v hv
  · rw [show sI (sNodC S n K b1 c1 v0) (i + 29) 0 = sI S (i + 29) 0 from k _ _ (by omega) (by omega)]
    exact u i hi
theorem T_cor {S : jS} {n nr nc nk : Nat} {x0 y0 : Nat} (hT : Told S n nr nc nk) (hk : nc < 3) (h1 : 8 ≤ x0 ∧ x0 ≤ 16) (h2 : 1 ≤ y0 ∧ y0 ≤ 8) : Told (sCor S nc x0 y0) n nr (nc + 1) nk := by
  obtain ⟨a, b, c, d, e, f, z, o, q, u⟩ := hT
  have k : ∀ x y, ¬ (x = 1 ∧ y = 5) → sI (sCor S nc x0 y0) x y = sI S x y := by
    intro x y q2
    simp only [sCor, pI_if, pD2_sI, q2, if_false]
  refine ⟨⟨(k _ _ (by omega)).trans a.1, a.2⟩, ⟨(k _ _ (by omega)).trans b.1, b.2⟩, ⟨pIk_eq, by omega, by omega⟩, ⟨(k _ _ (by omega)).trans d.1, d.2⟩, e, fun i hi => ?_, fun i hi => ?_, fun v hv => ?_, fun v hv => ?_, fun i hi => ?_⟩
  · rw [show kd (sCor S nc x0 y0) i = kd S i from k _ _ (by omega), show fe1 (sCor S nc x0 y0) i = fe1 S i from k _ _ (by omega), show fe2 (sCor S nc x0 y0) i = fe2 S i from k _ _ (by omega)]
    exact f i hi
  · rw [show sI (sCor S nc x0 y0) (i + 13) 5 = sI S (i + 13) 5 from k _ _ (by omega), show sI (sCor S nc x0 y0) (i + 13) 7 = sI S (i + 13) 7 from k _ _ (by omega)]
    exact z i hi
  · rw [show sI (sCor S nc x0 y0) (v + 6) 0 = sI S (v + 6) 0 from k _ _ (by omega), show sI (sCor S nc x0 y0) (v + 6) 1 = sI S (v + 6) 1 from k _ _ (by omega), show sI (sCor S nc x0 y0) (v + 6) 2 = sI S (v + 6) 2 from k _ _ (by omega)]
    exact o v hv
  · by_cases e1 : v = nc
    · subst e1
      exact ⟨⟨x0, h1.1, h1.2, by simp [sCor, pI_sD, pD2_if]⟩, ⟨y0, h2.1, h2.2, by simp [sCor, pI_sD, pD2_if]⟩⟩
    · rw [show sD (sCor S nc x0 y0) (v + 10) 0 = sD S (v + 10) 0 by simp [sCor, pI_sD, pD2_if, e1], show sD (sCor S nc x0 y0) (v + 10) 1 = sD S (v + 10) 1 by simp [sCor, pI_sD, pD2_if, e1]]
      exact q v hv
  · rw [show sI (sCor S nc x0 y0) (i + 29) 0 = sI S (i + 29) 0 from k _ _ (by omega)]
    exact u i hi
theorem T_5 {S : jS} {n nr nc nk i0 : Nat} {z0 : Int32} (hT : Told S n nr nc nk) (h1 : z0 = 1 ∨ z0 = 2 ∨ z0 = 4) : Told (pI S (i0 + 13) 5 z0) n nr nc nk := by
  obtain ⟨a, b, c, d, e, f, z, o, q, u⟩ := hT
  have k : ∀ x y, y ≠ 5 → sI (pI S (i0 + 13) 5 z0) x y = sI S x y := fun x y h => pIk_f h
  have k1 : ∀ y, sI (pI S (i0 + 13) 5 z0) 1 y = sI S 1 y := fun y => pIk_k (by omega)
  refine ⟨⟨(k1 _).trans a.1, a.2⟩, ⟨(k1 _).trans b.1, b.2⟩, ⟨(k1 _).trans c.1, c.2⟩, ⟨(k1 _).trans d.1, d.2⟩, e, fun i hi => ?_, fun i hi => ?_, fun v hv => ?_, q, fun i hi => ?_⟩
  · rw [show kd (pI S (i0 + 13) 5 z0) i = kd S i from k _ _ (by decide), show fe1 (pI S (i0 + 13) 5 z0) i = fe1 S i from k _ _ (by decide), show fe2 (pI S (i0 + 13) 5 z0) i = fe2 S i from k _ _ (by decide)]
    exact f i hi
  · refine ⟨?_, (z i hi).2.1, ?_⟩
    · rw [pI_if]
      split
      · exact h1
      · exact (z i hi).1
    · rw [show sI (pI S (i0 + 13) 5 z0) (i + 13) 7 = sI S (i + 13) 7 from k _ _ (by decide)]
      exact (z i hi).2.2
  · rw [show sI (pI S (i0 + 13) 5 z0) (v + 6) 0 = sI S (v + 6) 0 from k _ _ (by decide), show sI (pI S (i0 + 13) 5 z0) (v + 6) 1 = sI S (v + 6) 1 from k _ _ (by decide), show sI (pI S (i0 + 13) 5 z0) (v + 6) 2 = sI S (v + 6) 2 from k _ _ (by decide)]
    exact o v hv
  · rw [show sI (pI S (i0 + 13) 5 z0) (i + 29) 0 = sI S (i + 29) 0 from k _ _ (by decide)]
    exact u i hi
theorem T_7 {S : jS} {n nr nc nk i0 w0 : Nat} (hT : Told S n nr nc nk) (h1 : w0 ≤ 20) : Told (pI S (i0 + 13) 7 (nI w0)) n nr nc nk := by
  obtain ⟨a, b, c, d, e, f, z, o, q, u⟩ := hT
  have k : ∀ x y, y ≠ 7 → sI (pI S (i0 + 13) 7 (nI w0)) x y = sI S x y := fun x y h => pIk_f h
  have k1 : ∀ y, sI (pI S (i0 + 13) 7 (nI w0)) 1 y = sI S 1 y := fun y => pIk_k (by omega)
  refine ⟨⟨(k1 _).trans a.1, a.2⟩, ⟨(k1 _).trans b.1, b.2⟩, ⟨(k1 _).trans c.1, c.2⟩, ⟨(k1 _).trans d.1, d.2⟩, e, fun i hi => ?_, fun i hi => ?_, fun v hv => ?_, q, fun i hi => ?_⟩
  · rw [show kd (pI S (i0 + 13) 7 (nI w0)) i = kd S i from k _ _ (by decide), show fe1 (pI S (i0 + 13) 7 (nI w0)) i = fe1 S i from k _ _ (by decide), show fe2 (pI S (i0 + 13) 7 (nI w0)) i = fe2 S i from k _ _ (by decide)]
    exact f i hi
  · refine ⟨?_, (z i hi).2.1, ?_⟩
    · rw [show sI (pI S (i0 + 13) 7 (nI w0)) (i + 13) 5 = sI S (i + 13) 5 from k _ _ (by decide)]
      exact (z i hi).1
    · rw [pI_if]
      split
      · exact ⟨w0, h1, rfl⟩
      · exact (z i hi).2.2
  · rw [show sI (pI S (i0 + 13) 7 (nI w0)) (v + 6) 0 = sI S (v + 6) 0 from k _ _ (by decide), show sI (pI S (i0 + 13) 7 (nI w0)) (v + 6) 1 = sI S (v + 6) 1 from k _ _ (by decide), show sI (pI S (i0 + 13) 7 (nI w0)) (v + 6) 2 = sI S (v + 6) 2 from k _ _ (by decide)]
    exact o v hv
  · rw [show sI (pI S (i0 + 13) 7 (nI w0)) (i + 29) 0 = sI S (i + 29) 0 from k _ _ (by decide)]
    exact u i hi
theorem T_1 {S : jS} {n nr nc nk i0 a0 : Nat} (hT : Told S n nr nc nk) (h6 : kd S i0 = 6) (h1 : a0 < n) : Told (pI S (i0 + 13) 1 (nI a0)) n nr nc nk := by
  obtain ⟨a, b, c, d, e, f, z, o, q, u⟩ := hT
  have k : ∀ x y, y ≠ 1 → sI (pI S (i0 + 13) 1 (nI a0)) x y = sI S x y := fun x y h => pIk_f h
  have k1 : ∀ y, sI (pI S (i0 + 13) 1 (nI a0)) 1 y = sI S 1 y := fun y => pIk_k (by omega)
  refine ⟨⟨(k1 _).trans a.1, a.2⟩, ⟨(k1 _).trans b.1, b.2⟩, ⟨(k1 _).trans c.1, c.2⟩, ⟨(k1 _).trans d.1, d.2⟩, e, fun i hi => ?_, fun i hi => ?_, fun v hv => ?_, q, fun i hi => ?_⟩
  · obtain ⟨f1, f2, f3, f4⟩ := f i hi
    rw [show kd (pI S (i0 + 13) 1 (nI a0)) i = kd S i from k _ _ (by decide), show fe2 (pI S (i0 + 13) 1 (nI a0)) i = fe2 S i from k _ _ (by decide)]
    by_cases e1 : i = i0
    · subst e1
      rw [show fe1 (pI S (i + 13) 1 (nI a0)) i = nI a0 from pIk_eq]
      exact ⟨f1, Or.inr ⟨a0, h1, rfl⟩, fun q0 => absurd h6 q0, f4⟩
    · rw [show fe1 (pI S (i0 + 13) 1 (nI a0)) i = fe1 S i from pIk_k (by omega)]
      exact ⟨f1, f2, f3, f4⟩
  · rw [show sI (pI S (i0 + 13) 1 (nI a0)) (i + 13) 5 = sI S (i + 13) 5 from k _ _ (by decide), show sI (pI S (i0 + 13) 1 (nI a0)) (i + 13) 7 = sI S (i + 13) 7 from k _ _ (by decide)]
    exact z i hi
  · have k2 : ∀ y, sI (pI S (i0 + 13) 1 (nI a0)) (v + 6) y = sI S (v + 6) y := fun y => pIk_k (by omega)
    rw [k2 0, k2 1, k2 2]
    exact o v hv
  · rw [show sI (pI S (i0 + 13) 1 (nI a0)) (i + 29) 0 = sI S (i + 29) 0 from k _ _ (by decide)]
    exact u i hi
theorem T_w {S : jS} {n nr nc nk i0 w0 : Nat} (hT : Told S n nr nc nk) (h1 : w0 ≤ 80) : Told (pF2 S (i0 + 13) 6 (fv (w0 : Nat))) n nr nc nk := by
  obtain ⟨a, b, c, d, e, f, z, o, q, u⟩ := hT
  refine ⟨a, b, c, d, e, f, fun i hi => ⟨(z i hi).1, ?_, (z i hi).2.2⟩, o, q, u⟩
  show ∃ w : Nat, w ≤ 80 ∧ (if i + 13 = i0 + 13 ∧ 6 = 6 then fv (w0 : Nat) else S.2.2.2.1 (i + 13) 6) = fv w
  split
  · exact ⟨w0, h1, rfl⟩
  · exact (z i hi).2.1
theorem T_rul {S : jS} {n nr nc nk : Nat} (hT : Told S n nr nc nk) (h6 : nr < 6) : Told (sRul S nr 0 (-1) (-1)) n (nr + 1) nc nk := by
  obtain ⟨a, b, c, d, e, f, z, o, q, u⟩ := hT
  have k : ∀ x y, x ≠ nr + 29 → ¬ (x = 1 ∧ y = 7) → sI (sRul S nr 0 (-1) (-1)) x y = sI S x y := by
    intro x y q1 q2
    simp only [sRul, pI_if, q1, q2, false_and, if_false]
  refine ⟨⟨(k _ _ (by omega) (by omega)).trans a.1, a.2⟩, ⟨pIk_eq, by omega⟩, ⟨(k _ _ (by omega) (by omega)).trans c.1, c.2⟩, ⟨(k _ _ (by omega) (by omega)).trans d.1, d.2⟩, e, fun i hi => ?_, fun i hi => ?_, fun v hv => ?_, q, fun i hi => ?_⟩
  · have hn := a.2
    rw [show kd (sRul S nr 0 (-1) (-1)) i = kd S i from k _ _ (by omega) (by omega), show fe1 (sRul S nr 0 (-1) (-1)) i = fe1 S i from k _ _ (by omega) (by omega), show fe2 (sRul S nr 0 (-1) (-1)) i = fe2 S i from k _ _ (by omega) (by omega)]
    exact f i hi
  · rw [show sI (sRul S nr 0 (-1) (-1)) (i + 13) 5 = sI S (i + 13) 5 from k _ _ (by omega) (by omega), show sI (sRul S nr 0 (-1) (-1)) (i + 13) 7 = sI S (i + 13) 7 from k _ _ (by omega) (by omega)]
    exact z i hi
  · rw [show sI (sRul S nr 0 (-1) (-1)) (v + 6) 0 = sI S (v + 6) 0 from k _ _ (by omega) (by omega), show sI (sRul S nr 0 (-1) (-1)) (v + 6) 1 = sI S (v + 6) 1 from k _ _ (by omega) (by omega), show sI (sRul S nr 0 (-1) (-1)) (v + 6) 2 = sI S (v + 6) 2 from k _ _ (by omega) (by omega)]
    exact o v hv
  · by_cases e1 : i = nr
    · subst e1
      exact Or.inl (by simp [sRul, pI_if])
    · rw [show sI (sRul S nr 0 (-1) (-1)) (i + 29) 0 = sI S (i + 29) 0 from k _ _ (by omega) (by omega)]
      exact u i hi
theorem T_0 : Told s0 0 0 1 0 := by
  refine ⟨⟨rfl, by decide⟩, ⟨rfl, by decide⟩, ⟨rfl, by decide, by decide⟩, ⟨rfl, by decide⟩, fun i hi => by show 0 < 4; decide, fun i hi => absurd hi (Nat.not_lt_zero i), fun i hi => ⟨Or.inl ?_, ⟨4, by decide, ?_⟩, ⟨0, by decide, ?_⟩⟩, fun v hv => ⟨⟨0, by decide, ?_⟩, ⟨0, by decide, ?_⟩, ⟨0, by decide, ?_⟩⟩, fun c hc => ⟨⟨8, by decide, by decide, ?_⟩, ⟨8, by decide, by decide, ?_⟩⟩, fun k hk => Or.inl ?_⟩
  · rw [s0_I, if_neg (by omega), if_neg (by omega), if_pos (by omega)]
    rfl
  · rw [s0_F, if_neg (by omega), if_pos (by omega)]
    exact fv_1
  · rw [s0_I, if_neg (by omega), if_neg (by omega), if_pos (by omega)]
    rfl
  · rw [s0_I, if_neg (by omega), if_pos (by omega)]
    rfl
  · rw [s0_I, if_neg (by omega), if_pos (by omega)]
    rfl
  · rw [s0_I, if_neg (by omega), if_pos (by omega)]
    rfl
  · rw [s0_D, if_neg (by omega), if_pos (by omega)]
    exact dv_1
  · rw [s0_D, if_neg (by omega), if_pos (by omega)]
    exact dv_1
  · rw [s0_I, if_neg (by omega), if_neg (by omega), if_neg (by omega), if_pos (by omega)]
    rfl
