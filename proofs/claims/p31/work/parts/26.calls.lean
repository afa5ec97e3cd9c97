/-! making cells; contracts and calls of the little machine -/
section J5
variable {l : Launch} {D : va_G} {ad : Nat → Nat} {tc : Nat → ClassId} {L : Nat} {xs : Nat → Int32} {M : j_M} {d lo pc : Nat} {lv : j_L} {st : List Value} {h h' : j_H} {r : Option Value}
theorem j_push {D : va_G} {ad : Nat → Nat} {tc : Nat → ClassId} {H H1 : Heap} {h : j_H} {x : j_C} {n : Nat} (hP : j_P D ad tc H h) (z : H1.size = H.size + 1) (o : ∀ q : Nat, q < H.size → H1[q]? = H[q]?) (hx : va_at D j_cl (H.size, j_c ad tc x) H1) : j_P D ad tc H1 (h.1 ++ [x], h.2 + n) := by
  have h0 := hP.2 0
  refine ⟨?_, fun k => ?_⟩
  · show va_P D j_cl (j_w ad tc (h.1 ++ [x])) H1
    rw [j_w_app]
    refine (hP.1.kept fun k q hq => o q.1 (hP.1 k q hq).lt).app fun k q hq => ?_
    have hz : k < 1 := (List.getElem?_eq_some_iff.mp hq).1
    rw [show k = 0 by omega] at hq
    cases hq
    rw [show ad (h.1.length + 1) = H.size from h0]
    exact hx
  · have := hP.2 (k + 1)
    simp only [List.length_append, List.length_cons, List.length_nil]
    rw [show h.1.length + (0 + 1) + 1 + k = h.1.length + 1 + (k + 1) by omega, this, z]
    omega
/-- the class ci, made by the own entry idx, born with the fields fs -/
def j_no (own : String) (idx ci : Nat) (fs : List Value) : Prop := ∃ (C : String) (T : u_T) (N : Nat) (ty : Nat → FieldType), j_cl[ci]? = some (C, T, N) ∧ (∀ w ∈ u_ws C T N, w ∈ j_all) ∧ (∀ k, k < N → parseFieldDescriptor (T k).2.2.1 = some (ty k)) ∧ Cond.classLink own idx C ∈ j_all ∧ Cond.instantiable C N ∈ j_all ∧ Cond.initialized C ∈ j_all ∧ (∀ j, j < N → defaultValue (ty j) = vp_V fs j) ∧ (∀ ad, fs.map (j_v ad) = fs) ∧ fs.length = N
theorem rn_new {idx ci : Nat} {fs : List Value} (hd : decode M.2.1 pc = .ok (.new idx, 3)) (hn : j_no M.1.cls idx ci fs)
    (kk : Rn l D ad tc L xs M d lo (pc + 3) lv (.ref (h.1.length + 1) :: st) (h.1 ++ [.inr (ci, fs)], h.2 + fs.length) r h') : Rn l D ad tc L xs M d lo pc lv st h r h' := by
  refine rn_make (x := .inr (ci, fs)) (n := fs.length) (fun p e R s m args below meth c H locs cells slots ls Q hF hc hs hP hS kw => ?_) kk
  obtain ⟨C, T, N, ty, f1, f2, f3, f4, f5, f6, f7, f8, f9⟩ := hn
  obtain ⟨hx, hb, hml, hown, hts, hkw, hK, hX, hbl, hnm, hinj, hxw⟩ := hF
  have hKn := hK.1 ci _ f1
  rw [f9] at hs kw
  refine W.newcK hx hb hown (hts _ f4) (hts _ f5) (hts _ f6) rfl hd hc hs hKn.2.1 rfl fun H1 kC hkC e1 z1 o1 => ?_
  have h0 := hP.2 0
  have hkw := kw H1 (by
    have := j_push (n := fs.length) hP z1 o1 (x := .inr (ci, fs)) ⟨_, f1, by
      show t_OB H.size _ _ _ H1 (vp_V (fs.map (j_v ad)))
      rw [f8]
      exact (u_born ty hts f2 hKn hkC e1 f3).to f7⟩
    rw [f9] at this
    exact this) ⟨Nat.le_trans hS.1 (by omega), fun q h1 h2 => (o1 q (Nat.lt_of_lt_of_le h1 hS.1)).trans (hS.2.1 q h1 h2), hS.2.2⟩
  show W p l e R s m args below meth c H1 locs (cells + 1) (slots + N) Q (F0 m (pc + 3) ls (.ref H.size :: st.map (j_v ad)))
  rw [← show ad (h.1.length + 1) = H.size from h0]
  exact hkw
theorem j_tc {D : va_G} {tc : Nat → ClassId} {s : State} {t : Nat} {cA : ClassId} {at' : ArrayType} (hK : va_K D j_cl (j_tys tc) s) (ht : j_ty[t]? = some (newarray.typeOf at')) (h : s.vm.findClass ("[" ++ (newarray.typeOf at').toString) = some cA) : cA = tc t := by
  have h2 := (hK.2 t _ (j_ty_at ht)).2
  cases at' <;> exact Option.some.inj (h.symm.trans h2)
theorem rn_newarray {atype : ArrayType} {t N : Nat} {n : Int32} {f : vp_A} (hd : decode M.2.1 pc = .ok (.newarray atype, 2)) (ht : j_ty[t]? = some (newarray.typeOf atype)) (hw : Cond.arrayClass (newarray.typeOf atype) ∈ j_all) (hn : ¬ n < 0) (hN : n.toNatClampNeg = N) (hby : N * componentBytes (newarray.typeOf atype) ≤ 536870912)
    (hf : ∀ cA : ClassId, vp_cell cA f = arrV cA N (fun _ => defaultValue (newarray.typeOf atype))) (hj : ∀ ad tc, j_c ad tc (.inl (t, f)) = .inl (tc t, f))
    (kk : Rn l D ad tc L xs M d lo (pc + 2) lv (.ref (h.1.length + 1) :: st) (h.1 ++ [.inl (t, f)], h.2 + N) r h') : Rn l D ad tc L xs M d lo pc lv (.int n :: st) h r h' := by
  refine rn_make (x := .inl (t, f)) (n := N) (fun p e R s m args below meth c H locs cells slots ls Q hF hc hs hP hS kw => ?_) kk
  obtain ⟨hx, hb, hml, hown, hts, hkw, hK, hX, hbl, hnm, hinj, hxw⟩ := hF
  refine va_newaK hx hb (hts _ hw) rfl hd rfl hn hN hby hc hs rfl fun H1 cA e1 z1 o1 hAr hNm => ?_
  have h0 := hP.2 0
  have hcA := j_tc hK ht hNm
  subst hcA
  have hkw := kw H1 (j_push (n := N) hP z1 o1 (x := .inl (t, f)) (by
      rw [hj]
      show H1[H.size]? = some (vp_cell _ _)
      rw [hf]
      exact e1)) ⟨Nat.le_trans hS.1 (by omega), fun q h1 h2 => (o1 q (Nat.lt_of_lt_of_le h1 hS.1)).trans (hS.2.1 q h1 h2), hS.2.2⟩
  show W p l e R s m args below meth c H1 locs (cells + 1) (slots + N) Q (F0 m (pc + 2) ls (.ref H.size :: st.map (j_v ad)))
  rw [← show ad (h.1.length + 1) = H.size from h0]
  exact hkw
theorem rn_anewarray {C : String} {idx t N : Nat} {n : Int32} (hd : decode M.2.1 pc = .ok (.anewarray idx, 3)) (ht : j_ty[t]? = some (.object C)) (hw : Cond.classLink M.1.cls idx C ∈ j_all) (ho : C ∈ j_ao) (hn : ¬ n < 0) (hN : n.toNatClampNeg = N) (hby : N * 4 ≤ 536870912)
    (kk : Rn l D ad tc L xs M d lo (pc + 3) lv (.ref (h.1.length + 1) :: st) (h.1 ++ [.inl (t, N, .inr (.inr (.inr (.inr (fun _ => none)))))], h.2 + N) r h') : Rn l D ad tc L xs M d lo pc lv (.int n :: st) h r h' := by
  refine rn_make (x := .inl (t, N, .inr (.inr (.inr (.inr (fun _ => none)))))) (n := N) (fun p e R s m args below meth c H locs cells slots ls Q hF hc hs hP hS kw => ?_) kk
  obtain ⟨hx, hb, hml, hown, hts, hkw, hK, hX, hbl, hnm, hinj, hxw⟩ := hF
  subst hN
  refine W.anew hx hb hown (hts _ hw) (va_AO.use (hkw.2 C ho)) rfl hd rfl hn hby hc hs fun cA kA comp f1 f2 f3 f4 => ?_
  have h0 := hP.2 0
  have hcA : cA = tc t := by
    obtain ⟨kA', comp', g1, g2, g3, g4⟩ := (hK.2 t _ (j_ty_at ht)).2
    exact Option.some.inj (f1.symm.trans g4)
  subst hcA
  generalize hH1 : H.push ({ cls := tc t, slots := Array.replicate n.toNatClampNeg .null, vm := .none } : Cell) = H1
  have z1 : H1.size = H.size + 1 := by rw [← hH1, Array.size_push]
  have e1 : H1[H.size]? = some (arrV (tc t) n.toNatClampNeg (fun _ => .null)) := by rw [← hH1, Array.getElem?_push_size, ← arrV_new]
  have o1 : ∀ q : Nat, q < H.size → H1[q]? = H[q]? := fun q hq => by rw [← hH1, Array.getElem?_push, if_neg (Nat.ne_of_lt hq)]
  have hkw := kw H1 (j_push (n := n.toNatClampNeg) hP z1 o1 (x := .inl (t, n.toNatClampNeg, .inr (.inr (.inr (.inr (fun _ => none)))))) (by
      show H1[H.size]? = some (vp_cell (tc t) (n.toNatClampNeg, .inr (.inr (.inr (.inr (j_f ad (fun _ => none)))))))
      rw [vp_cell_q]
      exact e1)) ⟨Nat.le_trans hS.1 (by omega), fun q h1 h2 => (o1 q (Nat.lt_of_lt_of_le h1 hS.1)).trans (hS.2.1 q h1 h2), hS.2.2⟩
  show W p l e R s m args below meth c H1 locs (cells + 1) (slots + n.toNatClampNeg) Q (F0 m (pc + 3) ls (.ref H.size :: st.map (j_v ad)))
  rw [← show ad (h.1.length + 1) = H.size from h0]
  exact hkw
/-- an object into an array of its own class -/
theorem rn_aastore {a t n v ci : Nat} {f : Nat → Option Nat} {q : vw_C} {vs : List Value} {i : Int32} (hd : decode M.2.1 pc = .ok (.aastore, 1)) (he : h.1[a]? = some (.inl (t, n, .inr (.inr (.inr (.inr f)))))) (hc : j_cl[ci]? = some q) (ht : j_ty[t]? = some (.object q.1)) (hv : h.1[v]? = some (.inr (ci, vs))) (hin : vp_in i n)
    (kk : Rn l D ad tc L xs M d lo (pc + 1) lv st (h.1.set a (.inl (t, n, .inr (.inr (.inr (.inr (va_up f i.toNatClampNeg (some (v + 1)))))))), h.2) r h') : Rn l D ad tc L xs M d lo pc lv (.ref (v + 1) :: .int i :: .ref (a + 1) :: st) h r h' := by
  refine rn_cell (h2 := (h.1.set a (.inl (t, n, .inr (.inr (.inr (.inr (va_up f i.toNatClampNeg (some (v + 1)))))))), h.2)) (by simp) rfl (fun p e R s m args below meth c H locs cells slots ls Q hF hl hP hS kw => ?_) kk
  have hlt : i.toNatClampNeg < n := Nat.not_le.mp fun q => hin (Or.inr q)
  have h0 : ¬ i < 0 := fun q => hin (Or.inl q)
  have hK := hF.2.2.2.2.2.2.1
  obtain ⟨r', hr', cellV, g1, g2, g3, -⟩ := hP.1 v _ (j_w_get hv)
  have hcls := (hK.1 ci q hc).2
  obtain ⟨kA, comp, k1, k2, k3, -⟩ := (hK.2 t _ (j_ty_at ht)).2
  have hcomp : comp = D.1 ci := Option.some.inj (k3.symm.trans hcls.1)
  subst hcomp
  obtain ⟨kC, hkC, -⟩ := hcls.2
  have hcl : H[ad (a + 1)]? = some (vp_cell (tc t) (n, .inr (.inr (.inr (.inr (j_f ad f)))))) := hP.1 a _ (j_w_get he)
  refine W.aast hF.1 hF.2.1 hcl (fun q h => by cases h) (fun h => by cases h) k1 k2 rfl hkC ⟨h0, by show _ < (arrV _ _ _).slots.size; rw [arrV_size]; exact hlt⟩ g1 (fun q h => by rw [g3] at h; cases h) (by rw [g2]; exact hkC) (by rw [g2]; exact va_assign hcls) rfl rfl hd fun H1 e1 z oq => ?_
  refine kw H1 _ ⟨?_, fun j => by rw [List.length_set, z]; exact hP.2 j⟩ (hS.put z oq ⟨a, rfl⟩)
  have hset := hP.1.set (j_D hF.2.2.2.2.2.2.2.2.2.2.1) (j_w_get he) (e := .inl (tc t, n, .inr (.inr (.inr (.inr (j_f ad (va_up f i.toNatClampNeg (some (v + 1))))))))) (H1 := H1) ?_ oq
  · have e := j_w_set (ad := ad) (tc := tc) (G := h.1) (k := a) (c := .inl (t, n, .inr (.inr (.inr (.inr (va_up f i.toNatClampNeg (some (v + 1))))))))
    rw [← e]
    exact hset
  · show H1[ad (a + 1)]? = some (vp_cell _ _)
    rw [e1, vp_cell_q, arrV_store]
    refine (congrArg (fun g => some (arrV (tc t) n g)) (funext fun q => ?_) : some (arrV (tc t) n (updV (fun j => va_rf (j_f ad f j)) i.toNatClampNeg (.ref (ad (v + 1))))) = some (arrV (tc t) n (fun j => va_rf (j_f ad (va_up f i.toNatClampNeg (some (v + 1))) j))))
    by_cases hq : q = i.toNatClampNeg
    · subst hq
      simp [updV, va_up, va_rf, j_f]
    · simp [updV, va_up, j_f, hq]
end J5
