/-! rows of int rows; what Math.min asks -/
section J8
variable {l : Launch} {D : va_G} {ad : Nat → Nat} {tc : Nat → ClassId} {L : Nat} {xs : Nat → Int32} {M N : j_M} {d lo d' lo' pc idx n k : Nat} {lv lv' : j_L} {st As rest : List Value} {h h' h1 : j_H} {r rv : Option Value}
/-- an int row into a row of int rows -/
theorem rn_aastoreI {a n v m : Nat} {f : Nat → Option Nat} {g : Nat → Int32} {i : Int32} (hd : decode M.2.1 pc = .ok (.aastore, 1)) (he : h.1[a]? = some (.inl (8, n, .inr (.inr (.inr (.inr f)))))) (hv : h.1[v]? = some (.inl (0, m, .inl g))) (hin : vp_in i n)
    (kk : Rn l D ad tc L xs M d lo (pc + 1) lv st (h.1.set a (.inl (8, n, .inr (.inr (.inr (.inr (va_up f i.toNatClampNeg (some (v + 1)))))))), h.2) r h') : Rn l D ad tc L xs M d lo pc lv (.ref (v + 1) :: .int i :: .ref (a + 1) :: st) h r h' := by
  refine rn_cell (h2 := (h.1.set a (.inl (8, n, .inr (.inr (.inr (.inr (va_up f i.toNatClampNeg (some (v + 1)))))))), h.2)) (by simp) rfl (fun p e R s m' args below meth c H locs cells slots ls Q hF hl hP hS kw => ?_) kk
  have hlt : i.toNatClampNeg < n := Nat.not_le.mp fun q => hin (Or.inr q)
  have h0 : ¬ i < 0 := fun q => hin (Or.inl q)
  have hK := hF.2.2.2.2.2.2.1
  have hxw := hF.2.2.2.2.2.2.2.2.2.2.2
  have g1 : H[ad (v + 1)]? = some (vp_cell (tc 0) (m, .inl g)) := hP.1 v _ (j_w_get hv)
  have hfc : s.vm.findClass "[I" = some (tc 0) := (hK.2 0 _ (j_ty_at rfl)).2
  obtain ⟨kv, hkv, -⟩ := Vm.findClass_spec hfc
  obtain ⟨comp, cA, kA, k3, -, k1, k2, k5⟩ := arrayOverA_spec hxw.2
  have e8 : cA = tc 8 := Option.some.inj (k5.symm.trans (hK.2 8 _ (j_ty_at rfl)).2)
  subst e8
  obtain ⟨kC, hkC, -⟩ := Vm.findClass_spec k3
  have hcl : H[ad (a + 1)]? = some (vp_cell (tc 8) (n, .inr (.inr (.inr (.inr (j_f ad f)))))) := hP.1 a _ (j_w_get he)
  refine W.aast hF.1 hF.2.1 hcl (fun q h => by cases h) (fun h => by cases h) k1 k2 rfl hkC ⟨h0, by show _ < (arrV _ _ _).slots.size; rw [arrV_size]; exact hlt⟩ g1 (fun q h => by cases h) hkv (vb_asgS comp (tc 0) k3 hfc) rfl rfl hd fun H1 e1 z oq => ?_
  refine kw H1 _ ⟨?_, fun j => by rw [List.length_set, z]; exact hP.2 j⟩ (hS.put z oq ⟨a, rfl⟩)
  have hset := hP.1.set (j_D hF.2.2.2.2.2.2.2.2.2.2.1) (j_w_get he) (e := .inl (tc 8, n, .inr (.inr (.inr (.inr (j_f ad (va_up f i.toNatClampNeg (some (v + 1))))))))) (H1 := H1) ?_ oq
  · have e := j_w_set (ad := ad) (tc := tc) (G := h.1) (k := a) (c := .inl (8, n, .inr (.inr (.inr (.inr (va_up f i.toNatClampNeg (some (v + 1))))))))
    rw [← e]
    exact hset
  · show H1[ad (a + 1)]? = some (vp_cell _ _)
    rw [e1, vp_cell_q, arrV_store]
    refine (congrArg (fun g => some (arrV (tc 8) n g)) (funext fun q => ?_) : some (arrV (tc 8) n (updV (fun j => va_rf (j_f ad f j)) i.toNatClampNeg (.ref (ad (v + 1))))) = some (arrV (tc 8) n (fun j => va_rf (j_f ad (va_up f i.toNatClampNeg (some (v + 1))) j))))
    by_cases hq : q = i.toNatClampNeg
    · subst hq
      simp [updV, va_up, va_rf, j_f]
    · simp [updV, va_up, j_f, hq]
/-- new int[n][] -/
theorem rn_anewA {idx N : Nat} {n : Int32} (hd : decode M.2.1 pc = .ok (.anewarray idx, 3)) (hw : Cond.classLink M.1.cls idx "[I" ∈ j_all) (hn : ¬ n < 0) (hN : n.toNatClampNeg = N) (hby : N * 4 ≤ 536870912)
    (kk : Rn l D ad tc L xs M d lo (pc + 3) lv (.ref (h.1.length + 1) :: st) (h.1 ++ [.inl (8, N, .inr (.inr (.inr (.inr (fun _ => none)))))], h.2 + N) r h') : Rn l D ad tc L xs M d lo pc lv (.int n :: st) h r h' := by
  refine rn_make (x := .inl (8, N, .inr (.inr (.inr (.inr (fun _ => none)))))) (n := N) (fun p e R s m args below meth c H locs cells slots ls Q hF hc hs hP hS kw => ?_) kk
  have hxw := hF.2.2.2.2.2.2.2.2.2.2.2
  obtain ⟨hx, hb, hml, hown, hts, hkw, hK, hX, hbl, hnm, hinj, -⟩ := hF
  subst hN
  refine W.anewA (t := .int) hx hb hown (hts _ hw) hxw.2 rfl hd rfl hn hby hc hs fun cA kA comp f1 f2 f3 f4 => ?_
  have h0 := hP.2 0
  have hcA : cA = tc 8 := Option.some.inj (f1.symm.trans (hK.2 8 _ (j_ty_at rfl)).2)
  subst hcA
  generalize hH1 : H.push ({ cls := tc 8, slots := Array.replicate n.toNatClampNeg .null, vm := .none } : Cell) = H1
  have z1 : H1.size = H.size + 1 := by rw [← hH1, Array.size_push]
  have e1 : H1[H.size]? = some (arrV (tc 8) n.toNatClampNeg (fun _ => .null)) := by rw [← hH1, Array.getElem?_push_size, ← arrV_new]
  have o1 : ∀ q : Nat, q < H.size → H1[q]? = H[q]? := fun q hq => by rw [← hH1, Array.getElem?_push, if_neg (Nat.ne_of_lt hq)]
  have hkw := kw H1 (j_push (n := n.toNatClampNeg) hP z1 o1 (x := .inl (8, n.toNatClampNeg, .inr (.inr (.inr (.inr (fun _ => none)))))) (by
      show H1[H.size]? = some (vp_cell (tc 8) (n.toNatClampNeg, .inr (.inr (.inr (.inr (j_f ad (fun _ => none)))))))
      rw [vp_cell_q]
      exact e1)) ⟨Nat.le_trans hS.1 (by omega), fun q h1 h2 => (o1 q (Nat.lt_of_lt_of_le h1 hS.1)).trans (hS.2.1 q h1 h2), hS.2.2⟩
  show W p l e R s m args below meth c H1 locs (cells + 1) (slots + n.toNatClampNeg) Q (F0 m (pc + 3) ls (.ref H.size :: st.map (j_v ad)))
  rw [← show ad (h.1.length + 1) = H.size from h0]
  exact hkw
/-- a row out of a row of int rows -/
theorem rn_aaloadI {a n b : Nat} {f : Nat → Option Nat} {i : Int32} (hd : decode M.2.1 pc = .ok (.aaload, 1)) (he : h.1[a]? = some (.inl (8, n, .inr (.inr (.inr (.inr f)))))) (hin : vp_in i n) (hv : f i.toNatClampNeg = some b)
    (kk : Rn l D ad tc L xs M d lo (pc + 1) lv (.ref b :: st) h r h') : Rn l D ad tc L xs M d lo pc lv (.int i :: .ref (a + 1) :: st) h r h' :=
  rn_pure (fun p e R s m args below meth c H locs cells slots ls Q hF hd1 hd2 hl hP hS kw => by
    have hlt : i.toNatClampNeg < n := Nat.not_le.mp fun q => hin (Or.inr q)
    refine W.aald (v := va_rf (j_f ad f i.toNatClampNeg)) (ty := .array .int) hF.1 hF.2.1 (hP.1 a _ (j_w_get he)) ((hF.2.2.2.2.2.2.1.2 8 _ (j_ty_at rfl)).1 n (fun j => va_rf (j_f ad f j))) rfl (fun q => by cases q) (by show ¬ (i < 0 ∨ (arrV _ _ _).slots.size ≤ _); rw [arrV_size]; exact hin) (by show (arrV _ _ _).slots[_]? = _; rw [arrV_read _ _ hlt]) rfl rfl hd ?_
    rw [show va_rf (j_f ad f i.toNatClampNeg) = .ref (ad b) by simp [j_f, hv, va_rf]]
    exact kw) kk
/-- .. that isn't there yet -/
theorem rn_aaloadN {a n : Nat} {f : Nat → Option Nat} {i : Int32} (hd : decode M.2.1 pc = .ok (.aaload, 1)) (he : h.1[a]? = some (.inl (8, n, .inr (.inr (.inr (.inr f)))))) (hin : vp_in i n) (hv : f i.toNatClampNeg = none)
    (kk : Rn l D ad tc L xs M d lo (pc + 1) lv (.null :: st) h r h') : Rn l D ad tc L xs M d lo pc lv (.int i :: .ref (a + 1) :: st) h r h' :=
  rn_pure (fun p e R s m args below meth c H locs cells slots ls Q hF hd1 hd2 hl hP hS kw => by
    have hlt : i.toNatClampNeg < n := Nat.not_le.mp fun q => hin (Or.inr q)
    refine W.aald (v := va_rf (j_f ad f i.toNatClampNeg)) (ty := .array .int) hF.1 hF.2.1 (hP.1 a _ (j_w_get he)) ((hF.2.2.2.2.2.2.1.2 8 _ (j_ty_at rfl)).1 n (fun j => va_rf (j_f ad f j))) rfl (fun q => by cases q) (by show ¬ (i < 0 ∨ (arrV _ _ _).slots.size ≤ _); rw [arrV_size]; exact hin) (by show (arrV _ _ _).slots[_]? = _; rw [arrV_read _ _ hlt]) rfl rfl hd ?_
    rw [show va_rf (j_f ad f i.toNatClampNeg) = .null by simp [j_f, hv, va_rf]]
    exact kw) kk
/-- the bits of a double -/
theorem rn_bits {b : UInt64} (hM : M.1.cls = RJ9) (hd : decode M.2.1 pc = .ok (.invokestatic 79, 3)) (hd1 : 1 ≤ d) (hlo : (st.map fun v => v.category).sum + 15 ≤ lo)
    (kk : Rn l D ad tc L xs M d lo (pc + 3) lv (.long b.toInt64 :: st) h r h') : Rn l D ad tc L xs M d lo pc lv (.double b :: st) h r h' :=
  rn_pure (fun p e R s m args below meth c H locs cells slots ls Q hF hd1' hd2 hl hP hS kw => vn_d2l hF.1 hF.2.1 (hF.2.2.1.trans hl.1.symm) (hM ▸ hF.2.2.2.1) (hF.2.2.2.2.1 _ wq_link) (hF.2.2.2.2.1 _ wq_nat) (hF.2.2.2.2.1 _ wq_stat) (hF.2.2.2.2.1 _ wq_ini) (by omega) (by rw [List.map_map, show ((fun v : Value => v.category) ∘ j_v ad) = (fun v : Value => v.category) from funext fun v => j_cat v]; omega) hd kw) kk
theorem rn_negz (hM : M.1.cls = RJ9) (hd : decode M.2.1 pc = .ok (.getstatic 174, 3)) (kk : Rn l D ad tc L xs M d lo (pc + 3) lv (.long (-9223372036854775808) :: st) h r h') : Rn l D ad tc L xs M d lo pc lv st h r h' :=
  rn_pure (fun p e R s m args below meth c H locs cells slots ls Q hF hd1 hd2 hl hP hS kw => va_gets hF.1 hF.2.1 hF.2.2.2.2.2.2.2.2.2.2.2.1 hS (hM ▸ hF.2.2.2.1) (hF.2.2.2.2.1 _ wq_fl) (fun x hx => hx) hd kw) kk
end J8
