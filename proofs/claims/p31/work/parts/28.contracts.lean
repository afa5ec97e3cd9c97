/-! contracts and calls of the little machine -/
theorem j_good : ∀ w ∈ j_all, goodWord w = true := fun _ h => (List.mem_filter.mp h).2
def j_ws (M : j_M) : List Cond := Cond.code M.1 M.2.1 M.2.2.1 M.2.2.2 :: j_all
theorem j_GI {M : j_M} (hc : Cond.code M.1 M.2.1 M.2.2.1 M.2.2.2 ∈ j_all) : GoodIn j_all (j_ws M) := fun w h => by
  rcases List.mem_cons.mp h with rfl | h
  · exact ⟨hc, good_of_word (j_good _ hc)⟩
  · exact ⟨h, good_of_word (j_good _ h)⟩
def j_Q (D : va_G) (ad : Nat → Nat) (tc : Nat → ClassId) (r : Option Value) (h' : j_H) : Array Value → State → Outcome → State → Prop := fun _ st oc t => oc = .returned (r.map (j_v ad)) ∧ j_P D ad tc t.heap h' ∧ va_F (j_A ad) st t
def j_In (D : va_G) (ad : Nat → Nat) (tc : Nat → ClassId) (L : Nat) (xs : Nat → Int32) (h : j_H) : State → Prop := fun U => j_P D ad tc U.heap h ∧ va_K D j_cl (j_tys tc) U ∧ j_KW U ∧ va_X (ad 0) L xs U U.heap ∧ ad 0 < U.heap.size ∧ j_Xw D (j_A ad) U U.heap
/-- the contract of a method: called on As over the cells h, it returns r over the cells h' -/
def Cn (l : Launch) (D : va_G) (ad : Nat → Nat) (tc : Nat → ClassId) (L : Nat) (xs : Nat → Int32) (M : j_M) (d lo : Nat) (As : List Value) (h : j_H) (r : Option Value) (h' : j_H) : Prop :=
  (h.1.length ≤ h'.1.length ∧ h.2 ≤ h'.2) ∧ ((∀ i j, ad i = ad j → i = j) → Met l M.1 (j_ws M) { frames := d, cells := h'.1.length - h.1.length, slots := h'.2 - h.2, locals := lo } (va_Pc (As.map (j_v ad)) (j_In D ad tc L xs h)) (j_Q D ad tc r h') (h'.1.length - h.1.length) (h'.2 - h.2) (j_A ad))
theorem j_KW_moved {u U : State} (hW : u.WarmedH U.vm) (h : j_KW u) : j_KW U := ⟨fun w hw => va_Nw.warmM hW (h.1 w hw), fun C hC => (h.2 C hC).moved hW.alike⟩
theorem j_KW_same {u U : State} (hW : u.vm = U.vm) (ha : u.vm.Alike U.vm) (h : j_KW u) : j_KW U := ⟨fun w hw => va_Nw.same rfl hW (h.1 w hw), fun C hC => (h.2 C hC).moved ha⟩
theorem j_alike (U : State) (g : JFrame) (mk : MethodId) (a : Array Value) : U.vm.Alike (U.calling g mk a).vm := (State.WarmedH.refl U).alike
theorem j_blind {D : va_G} {ad : Nat → Nat} {tc : Nat → ClassId} {L : Nat} {xs : Nat → Int32} {av : List Value} {h : j_H} : FrameBlind (va_Pc av (j_In D ad tc L xs h)) := fun a U g mk q =>
  ⟨q.1, q.2.1, q.2.2.1.moved (j_alike U g mk a), j_KW_same rfl (j_alike U g mk a) q.2.2.2.1, q.2.2.2.2.1.moved (j_alike U g mk a), q.2.2.2.2.2.1, q.2.2.2.2.2.2.same rfl⟩
/-- what a callee finds at its start -/
theorem j_at_call {D : va_G} {ad : Nat → Nat} {tc : Nat → ClassId} {L : Nat} {xs : Nat → Int32} {M : j_M} {p : Program} {s : State} {m : MethodId} {args : Array Value} {meth : Method} {c : Code} {h : j_H} {H : Heap} {locs : List Loc} (hF : j_Fix D ad tc L xs M p s m args meth c) (hP : j_P D ad tc H h) (hS : va_S (j_A ad) s.heap H locs) {U : State} (hU : U.heap = H) (hW : s.WarmedH U.vm) : j_In D ad tc L xs h U := by
  obtain ⟨hx, hb, hml, hown, hts, hkw, hK, hX, hbl, hnm, hinj, hxw⟩ := hF
  refine ⟨by rw [hU]; exact hP, hK.moved hW.alike, j_KW_moved hW hkw, ?_, ?_, by rw [hU]; exact (hxw.kept hS.2.1).warm hW⟩
  · rw [hU]
    exact (hX.kept (hS.2.1 _ hbl (j_nA hinj))).moved hW.alike
  · rw [hU]
    exact Nat.lt_of_lt_of_le hbl hS.1
section J6
variable {l : Launch} {D : va_G} {ad : Nat → Nat} {tc : Nat → ClassId} {L : Nat} {xs : Nat → Int32} {M N : j_M} {d lo d' lo' pc idx n : Nat} {lv : j_L} {st As rest : List Value} {h h' h1 : j_H} {r rv : Option Value}
theorem j_run {p : Program} {e : Env} {R : Room} {s : State} {m : MethodId} {args : Array Value} {below : List Frame} {meth : Method} {c : Code} {H : Heap} {locs : List Loc} {cells slots mc ms : Nat} {ls : Array Slot} {Q : State → Prop} {a : Array Value} {st0 : List Value}
    (hF : j_Fix D ad tc L xs M p s m args meth c) (q1 : d ≤ R.frames) (q2 : lo ≤ R.locals) (q3 : mc ≤ R.cells) (q4 : ms ≤ R.slots) (q5 : cells + (h'.1.length - h.1.length) = mc) (q6 : slots + (h'.2 - h.2) = ms) (hl : j_lv ad ls M.2.2.1 lv) (hS : va_S (j_A ad) s.heap H locs)
    (hQ : ∀ (pcr : Nat) (lsr : Array Slot) (Hr : Heap) (locsr : List Loc) (ins : Instr), decode M.2.1 pcr = .ok (ins, 1) → j_ret ins r → j_P D ad tc Hr h' → va_S (j_A ad) s.heap Hr locsr → W p l e R s m args below meth c Hr locsr mc ms Q (F0 m pcr lsr (r.toList.map (j_v ad))))
    (hle : h.1.length ≤ h1.1.length ∧ h.2 ≤ h1.2) (hr : va_Run p l e R s m args below meth c H locs cells slots (h1.1.length - h.1.length) (h1.2 - h.2) (F0 m pc ls st0) (rest.map (j_v ad)) (j_Q D ad tc rv h1 a) (j_A ad))
    (k : Rn l D ad tc L xs M d lo (pc + 3) lv (rv.toList ++ rest) h1 r h') : W p l e R s m args below meth c H locs cells slots Q (F0 m pc ls st0) := by
  intro T hT X
  obtain ⟨v, st₀, t, T', L', g0, X', hL, e1, e2, ⟨hv, hP1, hz, hk⟩, stp⟩ := hr T hT X
  have hv : v = rv.map (j_v ad) := by injection hv
  subst hv
  rw [g0] at hz hk
  have hk0 := k.1
  obtain ⟨t2, a1, b1⟩ := k.2 p e R s m args below meth c T'.heap (locs ++ L') _ _ mc ms ls Q hF q1 q2 q3 q4 (by omega) (by omega) hl (by rw [e1]; exact hP1)
    ⟨Nat.le_trans hS.1 (by rw [e1]; exact hz), fun q h1 h2 => by rw [e1, hk q (Nat.lt_of_lt_of_le h1 hS.1) h2]; exact hS.2.1 q h1 h2, fun q hq => by
      rcases List.mem_append.mp hq with h | h
      · exact hS.2.2 q h
      · exact hL q h⟩ hQ T' rfl X'
  refine ⟨t2, stp t2 ?_, b1⟩
  rw [List.map_append] at a1
  have ee : (rv.map (j_v ad)).toList = rv.toList.map (j_v ad) := by cases rv <;> rfl
  rw [ee]
  exact a1
def j_nMH (M : j_M) : Prop := M.1.cls ≠ "java/lang/invoke/MethodHandle" ∧ M.1.cls ≠ "java/lang/invoke/VarHandle"
/-- what the tables say of a call: virtual (a private one too), by the own entry idx, of N with n arguments -/
def j_cv (own : String) (idx : Nat) (N : j_M) (n : Nat) : Prop := Cond.methodLink own idx N.1 ∈ j_all ∧ Cond.instanceMethod N.1 ∈ j_all ∧ Cond.selects N.1.cls N.1 N.1 ∈ j_all ∧ Cond.initialized N.1.cls ∈ j_all ∧ Cond.code N.1 N.2.1 N.2.2.1 N.2.2.2 ∈ j_all ∧ N.1.cls ≠ "java/lang/invoke/MethodHandle" ∧ N.1.cls ≠ "java/lang/invoke/VarHandle" ∧ (parseMethodDescriptor N.1.desc).map (fun d => d.parameters.length) = some n
theorem rn_callV {a ci : Nat} {q : vw_C} {fs : List Value} (hd : decode M.2.1 pc = .ok (.invokevirtual idx, 3)) (hw : j_cv M.1.cls idx N n) (hc : Cn l D ad tc L xs N d' lo' (.ref (a + 1) :: As) h rv h1) (hn : As.length = n) (he : h.1[a]? = some (.inr (ci, fs))) (hq : j_cl[ci]? = some q) (hq1 : q.1 = N.1.cls)
    (hd1 : d' + 1 ≤ d) (hlo : 8 + (N.2.2.1 + 11) + lo' ≤ lo) (hst : st = As.reverse ++ .ref (a + 1) :: rest) (hsum : (rest.map fun v => v.category).sum ≤ 8)
    (k : Rn l D ad tc L xs M d lo (pc + 3) lv (rv.toList ++ rest) h1 r h') : Rn l D ad tc L xs M d lo pc lv st h r h' := by
  subst hst
  refine ⟨⟨Nat.le_trans hc.1.1 k.1.1, Nat.le_trans hc.1.2 k.1.2⟩, fun p e R s m args below meth c H locs cells slots mc ms ls Q hF q1 q2 q3 q4 q5 q6 hl hP hS hQ => ?_⟩
  obtain ⟨w1, w2, w3, w4, w5, w6, w7, w8⟩ := hw
  have hts := hF.2.2.2.2.1
  have hk0 := k.1
  have hc0 := hc.1
  have hrec := va_recv hF.2.2.2.2.2.2.1 hP.1 hq (j_w_get he)
  refine j_run (a := (Value.ref (ad (a + 1)) :: As.map (j_v ad)).toArray) hF q1 q2 q3 q4 q5 q6 hl hS hQ hc.1 ?_ k
  refine va_runV (bytes := N.2.1) (maxL := N.2.2.1) (ret := N.2.2.2) (As := As.map (j_v ad)) (rest := rest.map (j_v ad)) (b := ad (a + 1)) (C := N.1.cls) (n := n) (Ts := j_all) (nL := M.2.2.1) ⟨hF.1, hF.2.1, hF.2.2.1, hF.2.2.2.1, hts⟩ (hc.2 hF.2.2.2.2.2.2.2.2.2.2.1) ?_ ⟨j_blind, by rw [← hq1]; exact hrec, fun U hU hW => ⟨rfl, j_at_call hF hP hS hU hW⟩⟩ rfl (by rw [List.length_map]; exact hn) hl.1 (by show List.map (j_v ad) (As.reverse ++ .ref (a + 1) :: rest) = _; rw [List.map_append, List.map_reverse]; rfl) (lv_room (by rw [List.map_map, show (Value.category ∘ j_v ad) = Value.category from funext fun v => j_cat v]; exact hsum)) hd ⟨by omega, by omega⟩
  exact ⟨⟨rfl, rfl, by show d' + 1 ≤ R.frames; omega, by show 8 + (N.2.2.1 + 11) + lo' ≤ R.locals; omega, pay_in hts (j_GI w5), List.mem_cons_self, hts _ w5, hts _ w4, ⟨w6, w7⟩, fun sig hs => by rw [hs] at w8; exact (Option.some.inj w8).symm, hts _ w1⟩, hts _ w2, hts _ w3⟩
def j_cs (own : String) (idx : Nat) (N : j_M) (n : Nat) : Prop := Cond.methodLink own idx N.1 ∈ j_all ∧ Cond.static N.1 ∈ j_all ∧ Cond.initialized N.1.cls ∈ j_all ∧ Cond.code N.1 N.2.1 N.2.2.1 N.2.2.2 ∈ j_all ∧ N.1.cls ≠ "java/lang/invoke/MethodHandle" ∧ N.1.cls ≠ "java/lang/invoke/VarHandle" ∧ (parseMethodDescriptor N.1.desc).map (fun d => d.parameters.length) = some n
theorem rn_callS (hd : decode M.2.1 pc = .ok (.invokestatic idx, 3)) (hw : j_cs M.1.cls idx N n) (hc : Cn l D ad tc L xs N d' lo' As h rv h1) (hn : As.length = n)
    (hd1 : d' + 1 ≤ d) (hlo : 8 + (N.2.2.1 + 11) + lo' ≤ lo) (hst : st = As.reverse ++ rest) (hsum : (rest.map fun v => v.category).sum ≤ 8)
    (k : Rn l D ad tc L xs M d lo (pc + 3) lv (rv.toList ++ rest) h1 r h') : Rn l D ad tc L xs M d lo pc lv st h r h' := by
  subst hst
  refine ⟨⟨Nat.le_trans hc.1.1 k.1.1, Nat.le_trans hc.1.2 k.1.2⟩, fun p e R s m args below meth c H locs cells slots mc ms ls Q hF q1 q2 q3 q4 q5 q6 hl hP hS hQ => ?_⟩
  have hts := hF.2.2.2.2.1
  have hk0 := k.1
  have hc0 := hc.1
  obtain ⟨w1, w2, w3, w4, w5, w6, w7⟩ := hw
  refine j_run (a := (As.map (j_v ad)).toArray) hF q1 q2 q3 q4 q5 q6 hl hS hQ hc.1 ?_ k
  refine va_runS (bytes := N.2.1) (maxL := N.2.2.1) (ret := N.2.2.2) (As := As.map (j_v ad)) (rest := rest.map (j_v ad)) (n := n) (Ts := j_all) (nL := M.2.2.1) ⟨hF.1, hF.2.1, hF.2.2.1, hF.2.2.2.1, hts⟩ (hc.2 hF.2.2.2.2.2.2.2.2.2.2.1) ?_ ⟨j_blind, fun U hU hW => ⟨rfl, j_at_call hF hP hS hU hW⟩⟩ rfl (by rw [List.length_map]; exact hn) hl.1 (by show List.map (j_v ad) (As.reverse ++ rest) = _; rw [List.map_append, List.map_reverse]) (lv_room (by rw [List.map_map, show (Value.category ∘ j_v ad) = Value.category from funext fun v => j_cat v]; exact hsum)) hd ⟨by omega, by omega⟩
  exact ⟨⟨rfl, rfl, by show d' + 1 ≤ R.frames; omega, by show 8 + (N.2.2.1 + 11) + lo' ≤ R.locals; omega, pay_in hts (j_GI w4), List.mem_cons_self, hts _ w4, hts _ w3, ⟨w5, w6⟩, fun sig hs => by rw [hs] at w7; exact (Option.some.inj w7).symm, hts _ w1⟩, hts _ w2⟩
def j_csn (own : String) (idx : Nat) (N : j_M) (n : Nat) (host : String) : Prop := (own, idx, N.1, host) ∈ j_nm ∧ Cond.static N.1 ∈ j_all ∧ Cond.initialized N.1.cls ∈ j_all ∧ Cond.code N.1 N.2.1 N.2.2.1 N.2.2.2 ∈ j_all ∧ N.1.cls ≠ "java/lang/invoke/MethodHandle" ∧ N.1.cls ≠ "java/lang/invoke/VarHandle" ∧ (parseMethodDescriptor N.1.desc).map (fun d => d.parameters.length) = some n
theorem rn_callSN {host : String} (hd : decode M.2.1 pc = .ok (.invokestatic idx, 3)) (hw : j_csn M.1.cls idx N n host) (hc : Cn l D ad tc L xs N d' lo' As h rv h1) (hn : As.length = n)
    (hd1 : d' + 1 ≤ d) (hlo : 8 + (N.2.2.1 + 11) + lo' ≤ lo) (hst : st = As.reverse ++ rest) (hsum : (rest.map fun v => v.category).sum ≤ 8)
    (k : Rn l D ad tc L xs M d lo (pc + 3) lv (rv.toList ++ rest) h1 r h') : Rn l D ad tc L xs M d lo pc lv st h r h' := by
  subst hst
  refine ⟨⟨Nat.le_trans hc.1.1 k.1.1, Nat.le_trans hc.1.2 k.1.2⟩, fun p e R s m args below meth c H locs cells slots mc ms ls Q hF q1 q2 q3 q4 q5 q6 hl hP hS hQ => ?_⟩
  have hts := hF.2.2.2.2.1
  have hk0 := k.1
  have hc0 := hc.1
  obtain ⟨w1, w2, w3, w4, w5, w6, w7⟩ := hw
  refine j_run (a := (As.map (j_v ad)).toArray) hF q1 q2 q3 q4 q5 q6 hl hS hQ hc.1 ?_ k
  refine va_runSN (bytes := N.2.1) (maxL := N.2.2.1) (ret := N.2.2.2) (As := As.map (j_v ad)) (rest := rest.map (j_v ad)) (n := n) (Ts := j_all) (nL := M.2.2.1) (host := host) ⟨hF.1, hF.2.1, hF.2.2.1, hF.2.2.2.1, hts⟩ (hc.2 hF.2.2.2.2.2.2.2.2.2.2.1) ?_ ⟨j_blind, fun U hU hW => ⟨rfl, j_at_call hF hP hS hU hW⟩⟩ rfl (by rw [List.length_map]; exact hn) hl.1 (by show List.map (j_v ad) (As.reverse ++ rest) = _; rw [List.map_append, List.map_reverse]) (lv_room (by rw [List.map_map, show (Value.category ∘ j_v ad) = Value.category from funext fun v => j_cat v]; exact hsum)) hd ⟨by omega, by omega⟩
  exact ⟨⟨⟨rfl, rfl, by show d' + 1 ≤ R.frames; omega, by show 8 + (N.2.2.1 + 11) + lo' ≤ R.locals; omega, pay_in hts (j_GI w4), List.mem_cons_self⟩, hts _ w4, hts _ w3, ⟨w5, w6⟩, fun sig hs => by rw [hs] at w7; exact (Option.some.inj w7).symm, va_Nw.use rfl (hF.2.2.2.2.2.1.1 _ w1)⟩, hts _ w2, trivial⟩
def j_ci (own : String) (idx : Nat) (N : j_M) (n : Nat) : Prop := Cond.methodLink own idx N.1 ∈ j_all ∧ Cond.instanceMethod N.1 ∈ j_all ∧ Cond.initialized N.1.cls ∈ j_all ∧ Cond.code N.1 N.2.1 N.2.2.1 N.2.2.2 ∈ j_all ∧ N.1.cls ≠ "java/lang/invoke/MethodHandle" ∧ N.1.cls ≠ "java/lang/invoke/VarHandle" ∧ (parseMethodDescriptor N.1.desc).map (fun d => d.parameters.length) = some n ∧ N.1.name = "<init>" ∧ N.2.2.2 = none
theorem rn_callI {a : Nat} (hd : decode M.2.1 pc = .ok (.invokespecial idx, 3)) (hw : j_ci M.1.cls idx N n) (hc : Cn l D ad tc L xs N d' lo' (.ref a :: As) h rv h1) (hn : As.length = n)
    (hd1 : d' + 1 ≤ d) (hlo : 8 + (N.2.2.1 + 11) + lo' ≤ lo) (hst : st = As.reverse ++ .ref a :: rest) (hsum : (rest.map fun v => v.category).sum ≤ 8)
    (k : Rn l D ad tc L xs M d lo (pc + 3) lv (rv.toList ++ rest) h1 r h') : Rn l D ad tc L xs M d lo pc lv st h r h' := by
  subst hst
  refine ⟨⟨Nat.le_trans hc.1.1 k.1.1, Nat.le_trans hc.1.2 k.1.2⟩, fun p e R s m args below meth c H locs cells slots mc ms ls Q hF q1 q2 q3 q4 q5 q6 hl hP hS hQ => ?_⟩
  have hts := hF.2.2.2.2.1
  have hk0 := k.1
  have hc0 := hc.1
  obtain ⟨w1, w2, w3, w4, w5, w6, w7, w8, w9⟩ := hw
  have hcm := hc.2 hF.2.2.2.2.2.2.2.2.2.2.1
  refine j_run (a := (Value.ref (ad a) :: As.map (j_v ad)).toArray) hF q1 q2 q3 q4 q5 q6 hl hS hQ hc.1 ?_ k
  refine va_runI (bytes := N.2.1) (maxL := N.2.2.1) (As := As.map (j_v ad)) (rest := rest.map (j_v ad)) (b := ad a) (n := n) (Ts := j_all) (nL := M.2.2.1) ⟨hF.1, hF.2.1, hF.2.2.1, hF.2.2.2.1, hts⟩ hcm ?_ ⟨j_blind, fun U hU hW => ⟨rfl, j_at_call hF hP hS hU hW⟩⟩ rfl (by rw [List.length_map]; exact hn) hl.1 (by show List.map (j_v ad) (As.reverse ++ .ref a :: rest) = _; rw [List.map_append, List.map_reverse]; rfl) (lv_room (by rw [List.map_map, show (Value.category ∘ j_v ad) = Value.category from funext fun v => j_cat v]; exact hsum)) hd ⟨by omega, by omega⟩
  rw [← w9]
  exact ⟨⟨rfl, rfl, by show d' + 1 ≤ R.frames; omega, by show 8 + (N.2.2.1 + 11) + lo' ≤ R.locals; omega, pay_in hts (j_GI w4), List.mem_cons_self, hts _ w4, hts _ w3, ⟨w5, w6⟩, fun sig hs => by rw [hs] at w7; exact (Option.some.inj w7).symm, hts _ w1⟩, w8, hts _ w2⟩
def j_cin (own : String) (idx : Nat) (N : j_M) (n : Nat) (host : String) : Prop := (own, idx, N.1, host) ∈ j_nm ∧ Cond.instanceMethod N.1 ∈ j_all ∧ Cond.initialized N.1.cls ∈ j_all ∧ Cond.code N.1 N.2.1 N.2.2.1 N.2.2.2 ∈ j_all ∧ N.1.cls ≠ "java/lang/invoke/MethodHandle" ∧ N.1.cls ≠ "java/lang/invoke/VarHandle" ∧ (parseMethodDescriptor N.1.desc).map (fun d => d.parameters.length) = some n ∧ N.1.name = "<init>" ∧ N.2.2.2 = none
theorem rn_callIN {a : Nat} {host : String} (hd : decode M.2.1 pc = .ok (.invokespecial idx, 3)) (hw : j_cin M.1.cls idx N n host) (hc : Cn l D ad tc L xs N d' lo' (.ref a :: As) h rv h1) (hn : As.length = n)
    (hd1 : d' + 1 ≤ d) (hlo : 8 + (N.2.2.1 + 11) + lo' ≤ lo) (hst : st = As.reverse ++ .ref a :: rest) (hsum : (rest.map fun v => v.category).sum ≤ 8)
    (k : Rn l D ad tc L xs M d lo (pc + 3) lv (rv.toList ++ rest) h1 r h') : Rn l D ad tc L xs M d lo pc lv st h r h' := by
  subst hst
  refine ⟨⟨Nat.le_trans hc.1.1 k.1.1, Nat.le_trans hc.1.2 k.1.2⟩, fun p e R s m args below meth c H locs cells slots mc ms ls Q hF q1 q2 q3 q4 q5 q6 hl hP hS hQ => ?_⟩
  have hts := hF.2.2.2.2.1
  have hk0 := k.1
  have hc0 := hc.1
  obtain ⟨w1, w2, w3, w4, w5, w6, w7, w8, w9⟩ := hw
  have hcm := hc.2 hF.2.2.2.2.2.2.2.2.2.2.1
  refine j_run (a := (Value.ref (ad a) :: As.map (j_v ad)).toArray) hF q1 q2 q3 q4 q5 q6 hl hS hQ hc.1 ?_ k
  refine va_runIN (bytes := N.2.1) (maxL := N.2.2.1) (host := host) (As := As.map (j_v ad)) (rest := rest.map (j_v ad)) (b := ad a) (n := n) (Ts := j_all) (nL := M.2.2.1) ⟨hF.1, hF.2.1, hF.2.2.1, hF.2.2.2.1, hts⟩ hcm ?_ ⟨j_blind, fun U hU hW => ⟨rfl, j_at_call hF hP hS hU hW⟩⟩ rfl (by rw [List.length_map]; exact hn) hl.1 (by show List.map (j_v ad) (As.reverse ++ .ref a :: rest) = _; rw [List.map_append, List.map_reverse]; rfl) (lv_room (by rw [List.map_map, show (Value.category ∘ j_v ad) = Value.category from funext fun v => j_cat v]; exact hsum)) hd ⟨by omega, by omega⟩
  rw [← w9]
  exact ⟨⟨⟨rfl, rfl, by show d' + 1 ≤ R.frames; omega, by show 8 + (N.2.2.1 + 11) + lo' ≤ R.locals; omega, pay_in hts (j_GI w4), List.mem_cons_self⟩, hts _ w4, hts _ w3, ⟨w5, w6⟩, fun sig hs => by rw [hs] at w7; exact (Option.some.inj w7).symm, va_Nw.use rfl (hF.2.2.2.2.2.1.1 _ w1)⟩, w8, hts _ w2⟩
/-- Object's constructor -/
theorem rn_objInit {a : Nat} (hd : decode M.2.1 pc = .ok (.invokespecial idx, 3)) (w1 : Cond.methodLink M.1.cls idx objectInit ∈ j_all) (w2 : Cond.instanceMethod objectInit ∈ j_all) (w3 : Cond.code objectInit ⟨#[0xb1]⟩ 1 none ∈ j_all) (hd1 : 1 ≤ d) (hlo : 20 ≤ lo) (hsum : (rest.map fun v => v.category).sum ≤ 8)
    (k : Rn l D ad tc L xs M d lo (pc + 3) lv rest h r h') : Rn l D ad tc L xs M d lo pc lv (.ref a :: rest) h r h' :=
  rn_pure (fun p e R s m args below meth c H locs cells slots ls Q hF q1 q2 hl hP hS kw => by
    have hts := hF.2.2.2.2.1
    have hro := lv_room (m := m) (pc := pc) (ls := ls) (rest := (Value.ref a :: rest).map (j_v ad)) (st := rest.map (j_v ad)) (by rw [List.map_map, show (Value.category ∘ j_v ad) = Value.category from funext fun v => j_cat v]; exact hsum)
    exact W.objInit (a := ad a) (rest := rest.map (j_v ad)) hF.1 hF.2.1 hF.2.2.2.1 (hts _ w1) (hts _ w2) (hts _ w3) rfl (hl.1.trans hF.2.2.1.symm) rfl hd (by omega) (by omega) kw) k
/-- the return -/
theorem rn_ret {ins : Instr} (hd : decode M.2.1 pc = .ok (ins, 1)) (hr : j_ret ins r) (hst : st = r.toList) : Rn l D ad tc L xs M d lo pc lv st h r h := by
  subst hst
  refine ⟨⟨Nat.le_refl _, Nat.le_refl _⟩, fun p e R s m args below meth c H locs cells slots mc ms ls Q hF q1 q2 q3 q4 q5 q6 hl hP hS hQ => ?_⟩
  have e1 : cells = mc := by omega
  have e2 : slots = ms := by omega
  subst e1
  subst e2
  exact hQ pc ls H locs ins hd hr hP hS
/-- the result is of the method's type -/
def j_rok (ret : Option FieldType) (r : Option Value) : Prop := match r with
  | none => ret = none
  | some (.int v) => ∃ ty, ret = some ty ∧ narrow ty (.int v) = .int v
  | some (.long _) => ret = some .long
  | some (.float _) => ret = some .float
  | some (.double _) => ret = some .double
  | some (.ref _) => ∃ rt, ret = some rt ∧ ((∃ n, rt = .object n) ∨ ∃ t, rt = .array t)
  | some .null => ∃ rt, ret = some rt ∧ ((∃ n, rt = .object n) ∨ ∃ t, rt = .array t)
  | _ => False
theorem cn_of {lv0 : j_L} (hy : plainName M.1.cls = true) (hok : j_rok M.2.2.2 r) (hlen : ∀ ad, (lg_sl (As.map (j_v ad))).length ≤ M.2.2.1) (hlv : ∀ ad, lv_args 0 (As.map (j_v ad)) = lv0.map (fun q : Nat × Value => (q.1, j_v ad q.2)))
    (k : Rn l D ad tc L xs M d lo 0 lv0 [] h r h') : Cn l D ad tc L xs M d lo As h r h' := by
  refine ⟨k.1, fun hinj => ?_⟩
  refine Met.ofW (cc := M.2.1) (maxL := M.2.2.1) (ret := M.2.2.2) hy rfl ?_
  intro p e s m args below meth c s₁ B hml hv
  obtain ⟨rfl, hP, hK, hkw, hX, hbl, hxw⟩ := hv
  have hts := atoms_spec (ws := j_ws M) B.pre
  have hown : s.vm.findClass M.1.cls = some m.cls := findClass_of_methodNamed B.named
  have hnm : meth.name = M.1.name := (name_of_methodNamed B.named B.method).1
  have hr := B.returns
  have hlocks := B.notSynchronized
  have hF : j_Fix D ad tc L xs M p s m (As.map (j_v ad)).toArray meth c := ⟨B.exec, B.bytes, hml, hown, fun w hw => hts w (List.mem_cons_of_mem _ hw), hkw, hK, hX, hbl, fun _ => hnm, hinj, hxw⟩
  have hl := lv_entry (As.map (j_v ad)) (n := M.2.2.1) (hlen ad)
  rw [lg_entry_eq]
  generalize (lg_sl (As.map (j_v ad)) ++ List.replicate (M.2.2.1 - (lg_sl (As.map (j_v ad))).length) Slot.unset).toArray = ls at hl ⊢
  rw [hlv ad] at hl
  refine k.2 p e _ s m _ below meth c s.heap [] 0 0 (h'.1.length - h.1.length) (h'.2 - h.2) ls _ hF (Nat.le_refl _) (Nat.le_refl _) (Nat.le_refl _) (Nat.le_refl _) (by omega) (by omega) hl hP va_S.rf ?_
  intro pcr lsr Hr locsr ins hdr hret hPr hSr
  have hx := B.exec
  have hb := B.bytes
  have fin : ∀ t : State, t.heap = Hr → s.WarmedH t.vm → j_Q D ad tc r h' (As.map (j_v ad)).toArray s (.returned (r.map (j_v ad))) t := fun t ht _ => ⟨rfl, by rw [ht]; exact hPr, hSr.F ht⟩
  match r, ins, hret, hok, fin with
  | none, .return_, _, hok, fin => exact W.vret hx hb (hr.trans hok) fin hSr.2.2 hdr hlocks
  | some (.int v), .ireturn, _, ⟨ty, e1, e2⟩, fin => exact W.zret (ty := ty) hx hb (hr.trans e1) e2 fin hSr.2.2 hdr hlocks
  | some (.long v), .lreturn, _, hok, fin => exact W.lret hx hb (hr.trans hok) fin hSr.2.2 hdr hlocks
  | some (.float v), .freturn, _, hok, fin => exact W.fret hx hb (hr.trans hok) fin hSr.2.2 hdr hlocks
  | some (.double v), .dreturn, _, hok, fin => exact W.dret hx hb (hr.trans hok) fin hSr.2.2 hdr hlocks
  | some (.ref v), .areturn, _, ⟨rt, e1, e2⟩, fin => exact W.aret (rt := rt) hx hb (hr.trans e1) e2 (Or.inr ⟨_, rfl⟩) fin hSr.2.2 hdr hlocks
  | some .null, .areturn, _, ⟨rt, e1, e2⟩, fin => exact W.aret (rt := rt) hx hb (hr.trans e1) e2 (Or.inl rfl) fin hSr.2.2 hdr hlocks
end J6
