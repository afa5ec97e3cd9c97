/-! rows of objects and of rows; Math.max; hasNext -/
theorem j_outer (c : ClassId) (N h0 : Nat) : ∀ i : Nat, Jvm.Free.Multi.outerC c N h0 i = arrV c N (fun j => va_rf (if j < i then some (h0 + 1 + j) else none))
  | 0 => by
    show ({ cls := c, slots := Array.replicate N .null, vm := .none } : Cell) = _
    rw [arrV_new]
    exact congrArg (arrV c N) (funext fun j => by rw [if_neg (Nat.not_lt_zero j)]; rfl)
  | i + 1 => by
    show (Jvm.Free.Multi.outerC c N h0 i).setSlot i (.ref (h0 + 1 + i)) = _
    rw [j_outer c N h0 i, arrV_store]
    refine congrArg (arrV c N) (funext fun j => ?_)
    by_cases e : j = i
    · subst e
      simp [updV, va_rf]
    · by_cases h : j < i
      · simp [updV, e, h, Nat.lt_succ_of_lt h]
      · simp [updV, e, h, show ¬ j < i + 1 by omega]
section J8
variable {l : Launch} {D : va_G} {ad : Nat → Nat} {tc : Nat → ClassId} {L : Nat} {xs : Nat → Int32} {M N : j_M} {d lo d' lo' pc idx n k : Nat} {lv lv' : j_L} {st As rest : List Value} {h h' h1 : j_H} {r rv : Option Value}
/-- an int row into a row of objects -/
theorem rn_aastoreI {a n v m : Nat} {f : Nat → Option Nat} {g : Nat → Int32} {i : Int32} (hd : decode M.2.1 pc = .ok (.aastore, 1)) (he : h.1[a]? = some (.inl (9, n, .inr (.inr (.inr (.inr f)))))) (hv : h.1[v]? = some (.inl (0, m, .inl g))) (hin : vp_in i n)
    (kk : Rn l D ad tc L xs M d lo (pc + 1) lv st (h.1.set a (.inl (9, n, .inr (.inr (.inr (.inr (va_up f i.toNatClampNeg (some (v + 1)))))))), h.2) r h') : Rn l D ad tc L xs M d lo pc lv (.ref (v + 1) :: .int i :: .ref (a + 1) :: st) h r h' := by
  refine rn_cell (h2 := (h.1.set a (.inl (9, n, .inr (.inr (.inr (.inr (va_up f i.toNatClampNeg (some (v + 1)))))))), h.2)) (by simp) rfl (fun p e R s m' args below meth c H locs cells slots ls Q hF hl hP hS kw => ?_) kk
  have hlt : i.toNatClampNeg < n := Nat.not_le.mp fun q => hin (Or.inr q)
  have h0 : ¬ i < 0 := fun q => hin (Or.inl q)
  have hK := hF.2.2.2.2.2.2.1
  have hxw := hF.2.2.2.2.2.2.2.2.2.2.2.1
  have g1 : H[ad (v + 1)]? = some (vp_cell (tc 0) (m, .inl g)) := hP.1 v _ (j_w_get hv)
  have hfc : s.vm.findClass "[I" = some (tc 0) := (hK.2 0 _ (j_ty_at rfl)).2
  obtain ⟨kv, hkv, -⟩ := Vm.findClass_spec hfc
  obtain ⟨kA, comp, k1, k2, k3, -⟩ := (hK.2 9 _ (j_ty_at rfl)).2
  obtain ⟨kC, hkC, -⟩ := Vm.findClass_spec k3
  have hcl : H[ad (a + 1)]? = some (vp_cell (tc 9) (n, .inr (.inr (.inr (.inr (j_f ad f)))))) := hP.1 a _ (j_w_get he)
  refine W.aast hF.1 hF.2.1 hcl (fun q h => by cases h) (fun h => by cases h) k1 k2 rfl hkC ⟨h0, by show _ < (arrV _ _ _).slots.size; rw [arrV_size]; exact hlt⟩ g1 (fun q h => by cases h) hkv (vb_asgC hxw.2.2.2.2.2.2.2 comp (tc 0) k3 hfc) rfl rfl hd fun H1 e1 z oq => ?_
  refine kw H1 _ ⟨?_, fun j => by rw [List.length_set, z]; exact hP.2 j⟩ (hS.put z oq ⟨a, rfl⟩)
  have hset := hP.1.set (j_D hF.2.2.2.2.2.2.2.2.2.2.1) (j_w_get he) (e := .inl (tc 9, n, .inr (.inr (.inr (.inr (j_f ad (va_up f i.toNatClampNeg (some (v + 1))))))))) (H1 := H1) ?_ oq
  · have e := j_w_set (ad := ad) (tc := tc) (G := h.1) (k := a) (c := .inl (9, n, .inr (.inr (.inr (.inr (va_up f i.toNatClampNeg (some (v + 1))))))))
    rw [← e]
    exact hset
  · show H1[ad (a + 1)]? = some (vp_cell _ _)
    rw [e1, vp_cell_q, arrV_store]
    refine (congrArg (fun g => some (arrV (tc 9) n g)) (funext fun q => ?_) : some (arrV (tc 9) n (updV (fun j => va_rf (j_f ad f j)) i.toNatClampNeg (.ref (ad (v + 1))))) = some (arrV (tc 9) n (fun j => va_rf (j_f ad (va_up f i.toNatClampNeg (some (v + 1))) j))))
    by_cases hq : q = i.toNatClampNeg
    · subst hq
      simp [updV, va_up, va_rf, j_f]
    · simp [updV, va_up, j_f, hq]
/-- new double[n][][] -/
theorem rn_anewA {idx N : Nat} {n : Int32} (hd : decode M.2.1 pc = .ok (.anewarray idx, 3)) (hw : Cond.classLink M.1.cls idx "[[D" ∈ j_all) (hn : ¬ n < 0) (hN : n.toNatClampNeg = N) (hby : N * 4 ≤ 536870912)
    (kk : Rn l D ad tc L xs M d lo (pc + 3) lv (.ref (h.1.length + 1) :: st) (h.1 ++ [.inl (11, N, .inr (.inr (.inr (.inr (fun _ => none)))))], h.2 + N) r h') : Rn l D ad tc L xs M d lo pc lv (.int n :: st) h r h' := by
  refine rn_make (x := .inl (11, N, .inr (.inr (.inr (.inr (fun _ => none)))))) (n := N) (fun p e R s m args below meth c H locs cells slots ls Q hF hc hs hP hS kw => ?_) kk
  have hxw := hF.2.2.2.2.2.2.2.2.2.2.2.1
  obtain ⟨hx, hb, hml, hown, hts, hkw, hK, hX, hbl, hnm, hinj, -, -⟩ := hF
  subst hN
  refine W.anewA (t := .array .double) hx hb hown (hts _ hw) hxw.2.2.2.1.2.2.2 rfl hd rfl hn hby hc hs fun cA kA comp f1 f2 f3 f4 => ?_
  have h0 := hP.2 0
  have hcA : cA = tc 11 := Option.some.inj (f1.symm.trans (hK.2 11 _ (j_ty_at rfl)).2)
  subst hcA
  generalize hH1 : H.push ({ cls := tc 11, slots := Array.replicate n.toNatClampNeg .null, vm := .none } : Cell) = H1
  have z1 : H1.size = H.size + 1 := by rw [← hH1, Array.size_push]
  have e1 : H1[H.size]? = some (arrV (tc 11) n.toNatClampNeg (fun _ => .null)) := by rw [← hH1, Array.getElem?_push_size, ← arrV_new]
  have o1 : ∀ q : Nat, q < H.size → H1[q]? = H[q]? := fun q hq => by rw [← hH1, Array.getElem?_push, if_neg (Nat.ne_of_lt hq)]
  have hkw := kw H1 (j_push (n := n.toNatClampNeg) hP z1 o1 (x := .inl (11, n.toNatClampNeg, .inr (.inr (.inr (.inr (fun _ => none)))))) (by
      show H1[H.size]? = some (vp_cell (tc 11) (n.toNatClampNeg, .inr (.inr (.inr (.inr (j_f ad (fun _ => none)))))))
      rw [vp_cell_q]
      exact e1)) ⟨Nat.le_trans hS.1 (by omega), fun q h1 h2 => (o1 q (Nat.lt_of_lt_of_le h1 hS.1)).trans (hS.2.1 q h1 h2), hS.2.2⟩
  show W p l e R s m args below meth c H1 locs (cells + 1) (slots + n.toNatClampNeg) Q (F0 m (pc + 3) ls (.ref H.size :: st.map (j_v ad)))
  rw [← show ad (h.1.length + 1) = H.size from h0]
  exact hkw
theorem j_push3 {H H1 : Heap} {x y z : j_C} {n : Nat} (hP : j_P D ad tc H h) (zz : H1.size = H.size + 3) (o : ∀ q : Nat, q < H.size → H1[q]? = H[q]?) (hx : va_at D j_cl (H.size, j_c ad tc x) H1) (hy : va_at D j_cl (H.size + 1, j_c ad tc y) H1) (hz : va_at D j_cl (H.size + 2, j_c ad tc z) H1) : j_P D ad tc H1 (h.1 ++ [x, y, z], h.2 + n) := by
  have h0 := hP.2 0
  have h1 := hP.2 1
  have h2 := hP.2 2
  have one : ∀ {q0 : Nat × va_E}, va_at D j_cl q0 H1 → va_P D j_cl [q0] H1 := fun {q0} hq k q hk => by
    have hz : k < 1 := (List.getElem?_eq_some_iff.mp hk).1
    rw [show k = 0 by omega] at hk
    cases hk
    exact hq
  refine ⟨?_, fun k => ?_⟩
  · show va_P D j_cl (j_w ad tc (h.1 ++ [x, y, z])) H1
    rw [show h.1 ++ [x, y, z] = ((h.1 ++ [x]) ++ [y]) ++ [z] by simp, j_w_app, j_w_app, j_w_app]
    refine (((hP.1.kept fun k q hq => o q.1 (hP.1 k q hq).lt).app ?_).app ?_).app ?_
    · rw [show ad (h.1.length + 1) = H.size from h0]
      exact one hx
    · rw [List.length_append, show ad (h.1.length + [x].length + 1) = H.size + 1 from h1]
      exact one hy
    · rw [List.length_append, List.length_append, show ad (h.1.length + [x].length + [y].length + 1) = H.size + 2 from h2]
      exact one hz
  · have := hP.2 (k + 3)
    simp only [List.length_append, List.length_cons, List.length_nil]
    rw [show h.1.length + (0 + 1 + 1 + 1) + 1 + k = h.1.length + 1 + (k + 3) by omega, this, zz]
    omega
/-- new double[2][0] -/
theorem rn_multi {idx : Nat} (hd : decode M.2.1 pc = .ok (.multianewarray idx 2, 4)) (hw : Cond.classLink M.1.cls idx "[[D" ∈ j_all) (hw2 : Cond.arrayClass .double ∈ j_all)
    (kk : Rn l D ad tc L xs M d lo (pc + 4) lv (.ref (h.1.length + 1) :: st) (h.1 ++ [.inl (10, 2, .inr (.inr (.inr (.inr (fun j => if j < 2 then some (h.1.length + 2 + j) else none))))), .inl (1, 0, .inr (.inr (.inr (.inl (fun _ => 0))))), .inl (1, 0, .inr (.inr (.inr (.inl (fun _ => 0)))))], h.2 + 2) r h') : Rn l D ad tc L xs M d lo pc lv (.int 0 :: .int 2 :: st) h r h' := by
  have hm := kk.1
  simp only [List.length_append, List.length_cons, List.length_nil] at hm
  refine ⟨⟨by omega, by omega⟩, fun p e R s m args below meth c H locs cells slots mc ms ls Q hF q1 q2 q3 q4 q5 q6 hl hP hS hQ => ?_⟩
  have hxw := hF.2.2.2.2.2.2.2.2.2.2.2.1
  have hK := hF.2.2.2.2.2.2.1
  have hts := hF.2.2.2.2.1
  have kk2 := fun (H1 : Heap) (hP1 : j_P D ad tc H1 _) (hS1 : va_S (j_A ad) s.heap H1 locs) => kk.2 p e R s m args below meth c H1 locs (cells + 3) (slots + 2) mc ms ls Q hF q1 q2 q3 q4 (by simp only [List.length_append, List.length_cons, List.length_nil]; omega) (by show slots + 2 + (h'.2 - (h.2 + 2)) = ms; omega) hl hP1 hS1 hQ
  intro T hT Xs
  obtain ⟨vm₁, cA, comp, -, fA, fC, hO, -, X', step⟩ := Xs.multianewarray2F (ty := .double) (n := 2) (k := 0) (rest := st.map (j_v ad)) hF.1 hF.2.2.2.1 (hts _ hw) hxw.2.2.2.1.2.2.1 (hts _ hw2) (g := F0 m pc ls (.int 0 :: .int 2 :: st.map (j_v ad))) rfl (by rw [hF.2.1]; exact hd) rfl (by decide) (by decide) (by decide) (by decide) (by decide) rfl rfl (by show cells + (1 + 2) ≤ R.cells; omega) (by show slots + (2 + 2 * 0) ≤ R.slots; omega)
  have eA : cA = tc 10 := Option.some.inj (fA.symm.trans (hK.2 10 _ (j_ty_at rfl)).2)
  have eC : comp = tc 1 := Option.some.inj (fC.symm.trans (hK.2 1 _ (j_ty_at rfl)).2)
  subst eA
  subst eC
  have n2 : (2 : Int32).toNatClampNeg = 2 := rfl
  have k0 : (0 : Int32).toNatClampNeg = 0 := rfl
  rw [n2, k0] at X' step
  generalize hFF : Jvm.Free.Multi.fill (T.setVm vm₁) (tc 10) (tc 1) 2 0 (defaultValue .double) 2 = F at X' step
  have hTh : (T.setVm vm₁).heap = H := hT
  obtain ⟨f1, f2, -, -⟩ := Jvm.Free.Multi.fill_facts (T.setVm vm₁) (tc 10) (tc 1) 2 0 (defaultValue .double) 2
  rw [hFF, hTh] at f1 f2
  have hold : ∀ x : Nat, x < H.size → F.heap[x]? = H[x]? := fun x hx => by
    have := Jvm.Free.Multi.fill_old (T.setVm vm₁) (tc 10) (tc 1) 2 0 (defaultValue .double) (a := x) (by rw [hTh]; exact hx) 2
    rw [hFF, hTh] at this
    exact this
  have hrow : ∀ j : Nat, j < 2 → F.heap[H.size + 1 + j]? = some (vp_cell (tc 1) (0, .inr (.inr (.inr (.inl (fun _ => 0)))))) := fun j hj => by
    have := Jvm.Free.Multi.fill_inner (T.setVm vm₁) (tc 10) (tc 1) 2 0 (defaultValue .double) 2 j hj
    rw [hFF, hTh] at this
    exact this
  have a0 := hP.2 0
  have ha2 : ∀ j, ad (h.1.length + 2 + j) = H.size + 1 + j := fun j => by
    have := hP.2 (1 + j)
    rw [show h.1.length + 1 + (1 + j) = h.1.length + 2 + j by omega] at this
    omega
  have f3 : F.heap[H.size]? = some (vp_cell (tc 10) (2, .inr (.inr (.inr (.inr (j_f ad (fun j => if j < 2 then some (h.1.length + 2 + j) else none))))))) := by
    rw [f2, vp_cell_q]
    refine congrArg some ((j_outer (tc 10) 2 H.size 2).trans (congrArg (arrV (tc 10) 2) (funext fun j => ?_)))
    by_cases hj : j < 2
    · simp only [j_f, if_pos hj, Option.map_some, va_rf, ha2]
    · simp only [j_f, if_neg hj, Option.map_none, va_rf]
  have hzz : F.heap.size = H.size + 3 := by rw [f1]
  obtain ⟨t, a1, b1⟩ := kk2 F.heap (j_push3 hP hzz hold f3 (hrow 0 (by decide)) (hrow 1 (by decide))) ⟨Nat.le_trans hS.1 (by omega), fun q h1 h2 => (hold q (Nat.lt_of_lt_of_le h1 hS.1)).trans (hS.2.1 q h1 h2), hS.2.2⟩ F rfl X'
  refine ⟨t, step t ?_, b1⟩
  have e : T.heap.size = H.size := by rw [hT]
  rw [e, ← show ad (h.1.length + 1) = H.size from a0]
  exact a1
theorem rn_mmax {x y : Int32} (hM : M.1.cls = RJx4a65c) (hd : decode M.2.1 pc = .ok (.invokestatic 79, 3)) (hd1 : 1 ≤ d) (hlo : 30 ≤ lo) (hsum : (st.map fun v => v.category).sum ≤ 8)
    (kk : Rn l D ad tc L xs M d lo (pc + 3) lv (.int (if x < y then y else x) :: st) h r h') : Rn l D ad tc L xs M d lo pc lv (.int y :: .int x :: st) h r h' := by
  refine ⟨kk.1, fun p e R s m args below meth c H locs cells slots mc ms ls Q hF q1 q2 q3 q4 q5 q6 hl hP hS hQ => ?_⟩
  have hts := hF.2.2.2.2.1
  have hk := kk.2 p e R s m args below meth c H locs cells slots mc ms ls Q hF q1 q2 q3 q4 q5 q6 hl hP hS hQ
  have hsum' : (st.map Value.category).sum ≤ 8 := hsum
  exact va_mmax hF.1 hF.2.1 (hF.2.2.1.trans hl.1.symm) (hM ▸ hF.2.2.2.1) (hts _ wm_link) (hts _ wm_stat) (hts _ wm_ini) (hts _ wm_code) (by omega) (by rw [List.map_map, show (Value.category ∘ j_v ad) = Value.category from funext fun v => j_cat v]; omega) (by omega) (by omega) hd hk
def mHN : j_M := (yJx35411_hasNext_aae02, cJx35411_hasNext_aae02, 1, some .boolean)
theorem rn_callF {a : Nat} {fs : List Value} {count : Nat} (hM : M.1.cls = RX11) (hd : decode M.2.1 pc = .ok (.invokeinterface 90 count, 5)) (hc : Cn l D ad tc L xs mHN d' lo' [.ref (a + 1)] h rv h1) (he : h.1[a]? = some (.inr (13, fs)))
    (hd1 : d' + 1 ≤ d) (hlo : 8 + (1 + 11) + lo' ≤ lo) (hst : st = .ref (a + 1) :: rest) (hsum : (rest.map fun v => v.category).sum ≤ 8)
    (k : Rn l D ad tc L xs M d lo (pc + 5) lv (rv.toList ++ rest) h1 r h') : Rn l D ad tc L xs M d lo pc lv st h r h' := by
  subst hst
  refine ⟨⟨Nat.le_trans hc.1.1 k.1.1, Nat.le_trans hc.1.2 k.1.2⟩, fun p e R s m args below meth c H locs cells slots mc ms ls Q hF q1 q2 q3 q4 q5 q6 hl hP hS hQ => ?_⟩
  have hts := hF.2.2.2.2.1
  have hk0 := k.1
  have hc0 := hc.1
  have hxw := hF.2.2.2.2.2.2.2.2.2.2.2.1
  have hat : ClassAt s RJx35411 (D.1 13) := (hF.2.2.2.2.2.2.1.1 13 _ rfl).2
  have hrec := va_recv hF.2.2.2.2.2.2.1 hP.1 (show j_cl[13]? = some (RJx35411, TJx35411, 4) from rfl) (j_w_get he)
  obtain ⟨z1, z2, z3, z4, z5⟩ := hxw.2.2.2.1.2.1
  have hr : va_Run5 p l e R s m args below meth c H locs cells slots (h1.1.length - h.1.length) (h1.2 - h.2) (F0 m pc ls ((.ref (a + 1) :: rest).map (j_v ad))) (rest.map (j_v ad)) (j_Q D ad tc rv h1 ([Value.ref (ad (a + 1))] : List Value).toArray) (j_A ad) := va_runF (count := count) (x := ⟨"java/util/Iterator", "hasNext", "()Z"⟩) (y := yJx35411_hasNext_aae02) (index := 90) (own := RX11) (cC := D.1 13) (bytes := cJx35411_hasNext_aae02) (maxL := 1) (ret := some .boolean) (As := []) (rest := rest.map (j_v ad)) (b := ad (a + 1)) (C := RJx35411) (n := 0) (Ts := j_all) (nL := M.2.2.1) (g := F0 m pc ls ((.ref (a + 1) :: rest).map (j_v ad))) (cells := cells) (slots := slots) hat ⟨hF.1, hF.2.1, hF.2.2.1, hM ▸ hF.2.2.2.1, hts⟩ (hc.2 hF.2.2.2.2.2.2.2.2.2.2.1) ⟨⟨rfl, rfl, by show d' + 1 ≤ R.frames; omega, by show 8 + (1 + 11) + lo' ≤ R.locals; omega, pay_in hts (j_GI (M := mHN) wh_code), List.mem_cons_self⟩, hts _ wh_link, va_any rfl z1, va_any rfl z2, hts _ wh_sel, hts _ wh_inst, va_any rfl z3, va_any rfl z4, va_any rfl z5, hts _ wh_ini, hts _ wh_code, ⟨by decide, by decide⟩, fun sig hs => by rw [show parseMethodDescriptor "()Z" = some ⟨[], some .boolean⟩ from rfl] at hs; cases hs; rfl⟩ ⟨j_blind, hrec, fun U hU hW => ⟨rfl, j_at_call hF hP hS hU hW⟩⟩ rfl rfl hl.1 rfl (lv_room (by rw [List.map_map, show (Value.category ∘ j_v ad) = Value.category from funext fun v => j_cat v]; exact hsum)) hd ⟨by omega, by omega⟩
  intro T hT X
  obtain ⟨v, st₀, t, T', L', g0, X', hL, e1, e2, ⟨hv, hP1, hz, hk⟩, stp⟩ := hr T hT X
  have hv : v = rv.map (j_v ad) := by injection hv
  subst hv
  rw [g0] at hz hk
  obtain ⟨t2, a1, b1⟩ := k.2 p e R s m args below meth c T'.heap (locs ++ L') _ _ mc ms ls Q hF q1 q2 q3 q4 (by omega) (by omega) hl (by rw [e1]; exact hP1)
    ⟨Nat.le_trans hS.1 (by rw [e1]; exact hz), fun q h1 h2 => by rw [e1, hk q (Nat.lt_of_lt_of_le h1 hS.1) h2]; exact hS.2.1 q h1 h2, fun q hq => by
      rcases List.mem_append.mp hq with h | h
      · exact hS.2.2 q h
      · exact hL q h⟩ hQ T' rfl X'
  refine ⟨t2, stp t2 ?_, b1⟩
  rw [List.map_append] at a1
  have ee : (rv.map (j_v ad)).toList = rv.toList.map (j_v ad) := by cases rv <;> rfl
  rw [ee]
  exact a1
end J8
