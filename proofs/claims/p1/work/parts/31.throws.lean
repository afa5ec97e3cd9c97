/-! methods that throw, handlers, absolute references, fields of nest mates -/
section VXE
variable {p : Program} {l : Launch} {e : Env} {R : Room} {s : State} {m : MethodId} {args : Array Value} {below : List Frame} {meth : Method} {c : Code} {H : Heap} {locs : List Loc} {cells slots : Nat} {Q : State → Prop}
variable {mc ms : Nat} {free : Addr → Prop} {A0 A1 : Nat → Prop} {H0 : Heap} {a : Array Value} {ls : Array Slot} {st0 rest : List Value}
variable {Qc : Array Value → State → Outcome → State → Prop} {XC : String → State → State → Prop}
/-- 'throw new E("text")', the text by a wide index; kit/laws' vx_throwSW, with one cell more said exactly -/
theorem jx_throwSW {cc : ByteArray} {pc : Nat} (hexec : p.tables.exec = Jvm.exec) (hb : c.code = cc) (hl : l.stackTraces = false) {own cls text : String} {names : List String} {ik is ic mc ms sa : Nat} {A : Nat → Prop}
    (hown : s.vm.findClass own = some m.cls) (hcls : Bundle.fit cls = true) (hnames : ∀ n ∈ names, Bundle.fit n = true)
    (hk : (Cond.classLink own ik cls).before args s = true) (hini : (Cond.initialized cls).before args s = true) (hstr : vk_R own is text sa s) (hat : ∀ w ∈ vx_atS own ic cls names, w.before args s = true)
    (hgood : ∀ w ∈ Cond.classLink own ik cls :: Cond.initialized cls :: vx_atS own ic cls names, vx_ot w = true)
    (hU : vx_Zq Bundle.tN "UNASSIGNED_STACK" Bundle.steD A s s.heap) (hN : vx_Zq Bundle.tN "SUPPRESSED_SENTINEL" Bundle.listD A s s.heap) (hS : va_S A s.heap H locs) (hsize : ls.size = c.maxLocals)
    (d0 : decode cc pc = .ok (.new ik, 3)) (d3 : decode cc (pc + 3) = .ok (.dup, 1)) (d4 : decode cc (pc + 4) = .ok (.ldc_w is, 3)) (d7 : decode cc (pc + 7) = .ok (.invokespecial ic, 3)) (d10 : decode cc (pc + 10) = .ok (.athrow, 1))
    (hout : ∀ x ∈ c.exceptionTable.toList, covers x (pc + 10) = false)
    (hRframes : names.length + 3 < R.frames) (hRlocals : (rest.map fun v => v.category).sum + (13 * (names.length + 1) + 43) ≤ R.locals) (hRcells : cells + 1 ≤ R.cells) (hRslots : slots + 6 ≤ R.slots) (hlocks : meth.locks = false)
    (hx : ∀ (t : State) (ce : Cell), s.vm.Alike t.vm → t.heap.size = H.size + 1 → (∀ q : Nat, q < H.size → t.heap[q]? = H[q]?) → t.heap[H.size]? = some ce → ce.vm = .none → s.vm.findClass cls = some ce.cls → XC cls s t)
    (hf : ∀ z ∈ locs, free z.base) (hc : cells + 1 ≤ mc) (hs : slots + 6 ≤ ms) :
    W p l e R s m args below meth c H locs cells slots (vx_MQ below Qc XC args s mc ms free) (F0 m pc ls rest) := by
  intro T hT X
  have htr : e.platform.stackTraces = false := (show e.platform.stackTraces = l.stackTraces by rw [X.admits.platform]).trans hl
  have Y := vx_rebase X (R' := { frames := R.frames, locals := R.locals, cells := 1, slots := 6 }) (Nat.le_refl _) (Nat.le_refl _) hRcells hRslots
  obtain ⟨s', hA⟩ : ∃ z, z = (T.setVm s.vm).setFrames (.invoking m args :: below) := ⟨_, rfl⟩
  rw [← hA] at Y
  have hvm : s'.vm = s.vm := by rw [hA]; rfl
  have hhp : s'.heap = H := by rw [hA]; exact hT
  have hW0 : s.WarmedH s'.vm := by rw [hvm]; exact State.WarmedH.refl s
  have hat' : ∀ w ∈ vx_atS own ic cls names, w.before args s' = true := fun w hw => vx_ot_at hW0 hvm.symm (hgood w (List.mem_cons_of_mem _ (List.mem_cons_of_mem _ hw))) (hat w hw)
  have hk' : (Cond.classLink own ik cls).before args s' = true := vx_ot_at hW0 hvm.symm (hgood _ List.mem_cons_self) hk
  have hini' : (Cond.initialized cls).before args s' = true := vx_ot_at hW0 hvm.symm (hgood _ (List.mem_cons_of_mem _ List.mem_cons_self)) hini
  have hU' : vx_Zq Bundle.tN "UNASSIGNED_STACK" Bundle.steD A s' s'.heap := by rw [hhp]; exact vx_Zq.moved hW0.alike (hU.kept hS.2.1)
  have hN' : vx_Zq Bundle.tN "SUPPRESSED_SENTINEL" Bundle.listD A s' s'.heap := by rw [hhp]; exact vx_Zq.moved hW0.alike (hN.kept hS.2.1)
  have h : ∀ w ∈ Bundle.ownAtoms own ic cls names, w.before args s' = true := vx_own hat' (vx_isRefq hU'.1) (vx_isRefq hN'.1) hU'.2.word hN'.2.word
  have hown' : s'.vm.findClass own = some m.cls := by rw [hvm]; exact hown
  have hins : (Cond.instantiable cls 6).before args s' = true := h _ (by simp [Bundle.ownAtoms])
  obtain ⟨vm₁, cX, kX, hfX, hkX, -, -, X₁, st1⟩ := Y.newCold hexec (own := own) (C := cls) (index := ik) (n := 6) hown' hk' hins hini'
    (g := F0 m pc ls rest) rfl (by rw [hb]; exact d0) (Nat.le_refl _) (Nat.le_refl _)
  generalize hT1 : (T.setVm vm₁).pushCell { cls := cX, slots := kX.instanceTypes.map defaultValue, vm := .none } = T1 at X₁ st1
  have hcat : (Value.ref T.heap.size).category = 1 := rfl
  have hcellA : T1.heap[T.heap.size]? = some (freshCell cX kX) := by rw [← hT1]; exact State.heap_pushCell_size _ _
  have d3' : decode c.code (pc + 3) = .ok (.dup, 1) := by rw [hb]; exact d3
  have d4' : decode c.code (pc + 4) = .ok (.ldc_w is, 3) := by rw [hb]; exact d4
  have hstr' : vk_R own is text sa s' := vk_R.warm hW0 hstr
  obtain ⟨U, hsteps, hrun, hend, hW, hsame, ce, hce, hO⟩ := X₁.ctorThrowS hexec htr (own := own) (cls := cls) (names := names) (ic := ic) hown' hcls hnames h (fun x hx => nomatch hx) hfX hkX hcellA (by rw [hhp, hT]; exact Nat.le_refl _) (msg := .ref sa) rfl
    (g := { method := m, pc := pc + 7, locals := ls, stack := .ref sa :: .ref T.heap.size :: .ref T.heap.size :: rest, locked := none }) rfl hsize rfl rfl (rest := rest) rfl
    (by rw [hb]; exact d7) (by rw [hb]; exact d10) hout hRframes (by simp only [List.map_cons, List.sum_cons, hcat]; omega) hlocks
  obtain ⟨f1, f2⟩ := vx_frame hsame
  rw [hhp] at f1 f2
  have f3 : U.heap.size = H.size + 1 := by
    have g1 : U.heap.size ≤ s'.heap.size + (0 + 1) := hsame.2.2.1
    have g2 : T.heap.size < U.heap.size := (Array.getElem?_eq_some_iff.mp hce).1
    rw [hhp] at g1
    rw [hT] at g2
    omega
  have hWs : s.WarmedH U.vm := State.WarmedH.trans hW0 hW
  have hcl : s.vm.findClass cls = some ce.cls := by
    have h9 := hO.cls
    rw [hvm] at h9
    exact h9
  have hall : s.sameButNew ({ U with vm := s.vm } : State) locs mc ms := by
    subst hA
    obtain ⟨e1, e2⟩ := hsame
    rw [State.setFrames_setFrames] at e1
    have h2 : (T.setVm s.vm).sameButNew ({ U with vm := s.vm } : State) [] (0 + 1) (0 + 6) := ⟨e1, e2⟩
    have h3 := X.same.trans h2
    rw [List.append_nil] at h3
    exact h3.mono hc hs
  refine ⟨U, ?_, .threw T.heap.size, hrun, hend, Or.inr ⟨T.heap.size, rfl, cls, ce, locs, hx U ce hWs.alike f3 (fun q hq => f2 q hq (fun z hz => nomatch hz)) (by rw [← hT]; exact hce) hO.vm hcl, hce, hO.vm, hcl, hWs, hall, hf⟩⟩
  refine st1 _ ?_
  show Steps p.tables e below (T1.setTop { method := m, pc := pc + 3, locals := ls, stack := .ref T.heap.size :: rest, locked := none }) _
  jvm_step X₁.here [X₁.here.top, hexec, d3', Value.category]
  exact X₁.ldcStringW hexec (own := own) (text := text) (index := is) (a := sa) hown' hstr'.1 hstr'.2
    (g := { method := m, pc := pc + 4, locals := ls, stack := .ref T.heap.size :: .ref T.heap.size :: rest, locked := none }) rfl d4' _ hsteps
end VXE
section J7
variable {l : Launch} {D : va_G} {ad : Nat → Nat} {tc : Nat → ClassId} {L : Nat} {xs : Nat → Int32} {M N : j_M} {d lo d' lo' pc idx n k : Nat} {lv lv' : j_L} {st As rest : List Value} {h h' h1 : j_H} {r rv : Option Value}
/-- a thrown object: nothing is known of its fields -/
def j_x (k : Nat) : j_C := .inr (14 + k, [])
def exh (h : j_H) (k : Nat) : j_H := (h.1 ++ [j_x k], h.2 + 6)
theorem exh_len : (exh h k).1.length = h.1.length + 1 := by simp [exh]
def j_XC (D : va_G) (ad : Nat → Nat) (tc : Nat → ClassId) (k : Nat) (h1 : j_H) : String → State → State → Prop := fun E st t => E = j_ex k ∧ j_P D ad tc t.heap h1 ∧ va_F (j_A ad) st t
/-- the contract of a method that throws: the class k, over the same cells and one more -/
def Cx (l : Launch) (D : va_G) (ad : Nat → Nat) (tc : Nat → ClassId) (L : Nat) (xs : Nat → Int32) (M : j_M) (d lo : Nat) (As : List Value) (h : j_H) (k : Nat) : Prop :=
  (∀ i j, ad i = ad j → i = j) → vx_Met l M.1 (j_ws M) { frames := d, cells := 1, slots := 6, locals := lo } (va_Pc (As.map (j_v ad)) (j_In D ad tc L xs h)) (fun _ _ _ _ => False) (j_XC D ad tc k (exh h k)) 1 6 (j_A ad)
theorem j_pushx {H H1 : Heap} {s : State} {ce : Cell} (hP : j_P D ad tc H h) (hK : va_K D j_cl (j_tys tc) s) (hk : k < 3) (z : H1.size = H.size + 1) (o : ∀ q : Nat, q < H.size → H1[q]? = H[q]?) (h1 : H1[H.size]? = some ce) (h2 : ce.vm = .none) (h3 : s.vm.findClass (j_ex k) = some ce.cls) : j_P D ad tc H1 (exh h k) := by
  refine j_push (n := 6) hP z o ?_
  have hc : j_cl[14 + k]? = some (j_ex k, TX0, 0) := by
    match k, hk with
    | 0, _ => rfl
    | 1, _ => rfl
    | 2, _ => rfl
  refine ⟨_, hc, ce, h1, ?_, h2, fun i hi => absurd hi (Nat.not_lt_zero i)⟩
  have hcl := ((hK.1 (14 + k) _ hc).2).1
  exact Option.some.inj (h3.symm.trans hcl)
/-- a method that throws its own text: the two of them -/
theorem j_xws (ws : List Cond) (h : ∀ w ∈ ws.filter goodWord, w ∈ lw_tbl) : ∀ w ∈ ws.filter goodWord, w ∈ j_all := fun w hw => List.mem_filter.mpr ⟨h w hw, (List.mem_filter.mp hw).2⟩
theorem wx_mustExist : ∀ w ∈ (vx_atS RX9 269 (j_ex 1) ["java/lang/RuntimeException", "java/lang/Exception"]).filter goodWord, w ∈ lw_tbl := by decide +kernel
theorem wy_mustExist : ∀ w ∈ (vx_atS RX9 269 (j_ex 1) ["java/lang/RuntimeException", "java/lang/Exception"]).filter (fun w => !goodWord w), w ∈ [Cond.castable (j_ex 1) (j_ex 1), Cond.declares (Bundle.initS "java/lang/RuntimeException"), Cond.declares (Bundle.initS "java/lang/Exception"), Cond.declares (Bundle.initS Bundle.tN)] := by decide +kernel
theorem wz_mustExist : ∀ w ∈ Cond.classLink RX9 265 (j_ex 1) :: Cond.initialized (j_ex 1) :: vx_atS RX9 269 (j_ex 1) ["java/lang/RuntimeException", "java/lang/Exception"], vx_ot w = true := by decide +kernel
theorem wk_mustExist : Cond.classLink RX9 265 (j_ex 1) ∈ j_all := j_in 691 (by decide +kernel) rfl
theorem wi_mustExist : Cond.initialized (j_ex 1) ∈ j_all := j_in 24 (by decide +kernel) rfl
set_option maxRecDepth 20000 in
theorem cx_mustExist (hl : l.stackTraces = false) : Cx l D ad tc L xs mX9_mustExist 6 90 [.int 0] h 1 := by
  intro hinj
  refine vx_ofW (cc := cX9_mustExist) (maxL := 1) (ret := none) (by decide +kernel) rfl ?_
  intro p e s m args below meth c s₁ B hml htb hv
  obtain ⟨rfl, hP, hK, hkw, hX, hbl, hxw⟩ := hv
  have hts := atoms_spec (ws := j_ws mX9_mustExist) B.pre
  have hown : s.vm.findClass RX9 = some m.cls := findClass_of_methodNamed B.named
  have hlocks := B.notSynchronized
  have hlv := lv_entry (([.int 0] : List Value).map (j_v ad)) (n := 1) (Nat.le_of_ble_eq_true rfl)
  rw [lg_entry_eq]
  generalize (lg_sl (([.int 0] : List Value).map (j_v ad)) ++ List.replicate (1 - (lg_sl (([.int 0] : List Value).map (j_v ad))).length) Slot.unset).toArray = ls at hlv ⊢
  refine lv_iload_n (x := 0) B.exec B.bytes dX9_mustExist_0 rfl (lv_at hlv 0 rfl) ?_
  refine lv_if_ne (tgt := 15) B.exec B.bytes dX9_mustExist_1 rfl (fun q => absurd rfl q) (fun _ => ?_)
  obtain ⟨sa, hsa⟩ := hxw.2.1.1
  refine jx_throwSW (names := ["java/lang/RuntimeException", "java/lang/Exception"]) (text := j_t1) (sa := sa) (A := j_A ad) B.exec B.bytes hl hown (by decide +kernel) (by decide +kernel) (hts _ (List.mem_cons_of_mem _ wk_mustExist)) (hts _ (List.mem_cons_of_mem _ wi_mustExist)) hsa
    (vx_hat (fun w hw => hts w (List.mem_cons_of_mem _ (j_xws _ wx_mustExist w hw))) wy_mustExist (vx_c (va_Nw.use rfl (hxw.2.2.2.2.1 1 (by decide))) (vx_c (va_Nw.use rfl (hxw.2.2.2.2.2.2.1 _ (by simp [j_dw]))) (vx_c (va_Nw.use rfl (hxw.2.2.2.2.2.2.1 _ (by simp [j_dw]))) (vx_c (va_Nw.use rfl (hxw.2.2.2.2.2.2.1 _ (by simp [j_dw]))) vx_n))))) wz_mustExist hxw.1.1 hxw.1.2 va_S.rf (hlv.1.trans hml.symm) dX9_mustExist_4 dX9_mustExist_7 dX9_mustExist_8 dX9_mustExist_11 dX9_mustExist_14 (fun x hx => absurd (htb x hx) id)
    (by show 2 + 3 < 6; decide) (by show 0 + (13 * 3 + 43) ≤ 90; decide) (by show 0 + 1 ≤ 1; decide) (by show 0 + 6 ≤ 6; decide) hlocks ?_ (fun z hz => nomatch hz) (Nat.le_refl _) (Nat.le_refl _)
  intro t ce ha z o h1 h2 h3
  exact ⟨rfl, j_pushx hP hK (by decide) z o h1 h2 h3, by rw [z]; exact Nat.le_succ _, fun q hq _ => o q hq⟩
theorem wx_mustFit : ∀ w ∈ (vx_atS RX9 274 (j_ex 2) ["java/lang/RuntimeException", "java/lang/Exception"]).filter goodWord, w ∈ lw_tbl := by decide +kernel
theorem wy_mustFit : ∀ w ∈ (vx_atS RX9 274 (j_ex 2) ["java/lang/RuntimeException", "java/lang/Exception"]).filter (fun w => !goodWord w), w ∈ [Cond.castable (j_ex 2) (j_ex 2), Cond.declares (Bundle.initS "java/lang/RuntimeException"), Cond.declares (Bundle.initS "java/lang/Exception"), Cond.declares (Bundle.initS Bundle.tN)] := by decide +kernel
theorem wz_mustFit : ∀ w ∈ Cond.classLink RX9 270 (j_ex 2) :: Cond.initialized (j_ex 2) :: vx_atS RX9 274 (j_ex 2) ["java/lang/RuntimeException", "java/lang/Exception"], vx_ot w = true := by decide +kernel
theorem wk_mustFit : Cond.classLink RX9 270 (j_ex 2) ∈ j_all := j_in 581 (by decide +kernel) rfl
theorem wi_mustFit : Cond.initialized (j_ex 2) ∈ j_all := j_in 23 (by decide +kernel) rfl
set_option maxRecDepth 20000 in
theorem cx_mustFit (hl : l.stackTraces = false) : Cx l D ad tc L xs mX9_mustFit 6 90 [.int 0] h 2 := by
  intro hinj
  refine vx_ofW (cc := cX9_mustFit) (maxL := 1) (ret := none) (by decide +kernel) rfl ?_
  intro p e s m args below meth c s₁ B hml htb hv
  obtain ⟨rfl, hP, hK, hkw, hX, hbl, hxw⟩ := hv
  have hts := atoms_spec (ws := j_ws mX9_mustFit) B.pre
  have hown : s.vm.findClass RX9 = some m.cls := findClass_of_methodNamed B.named
  have hlocks := B.notSynchronized
  have hlv := lv_entry (([.int 0] : List Value).map (j_v ad)) (n := 1) (Nat.le_of_ble_eq_true rfl)
  rw [lg_entry_eq]
  generalize (lg_sl (([.int 0] : List Value).map (j_v ad)) ++ List.replicate (1 - (lg_sl (([.int 0] : List Value).map (j_v ad))).length) Slot.unset).toArray = ls at hlv ⊢
  refine lv_iload_n (x := 0) B.exec B.bytes dX9_mustFit_0 rfl (lv_at hlv 0 rfl) ?_
  refine lv_if_ne (tgt := 15) B.exec B.bytes dX9_mustFit_1 rfl (fun q => absurd rfl q) (fun _ => ?_)
  obtain ⟨sa, hsa⟩ := hxw.2.1.2
  refine jx_throwSW (names := ["java/lang/RuntimeException", "java/lang/Exception"]) (text := j_t2) (sa := sa) (A := j_A ad) B.exec B.bytes hl hown (by decide +kernel) (by decide +kernel) (hts _ (List.mem_cons_of_mem _ wk_mustFit)) (hts _ (List.mem_cons_of_mem _ wi_mustFit)) hsa
    (vx_hat (fun w hw => hts w (List.mem_cons_of_mem _ (j_xws _ wx_mustFit w hw))) wy_mustFit (vx_c (va_Nw.use rfl (hxw.2.2.2.2.1 2 (by decide))) (vx_c (va_Nw.use rfl (hxw.2.2.2.2.2.2.1 _ (by simp [j_dw]))) (vx_c (va_Nw.use rfl (hxw.2.2.2.2.2.2.1 _ (by simp [j_dw]))) (vx_c (va_Nw.use rfl (hxw.2.2.2.2.2.2.1 _ (by simp [j_dw]))) vx_n))))) wz_mustFit hxw.1.1 hxw.1.2 va_S.rf (hlv.1.trans hml.symm) dX9_mustFit_4 dX9_mustFit_7 dX9_mustFit_8 dX9_mustFit_11 dX9_mustFit_14 (fun x hx => absurd (htb x hx) id)
    (by show 2 + 3 < 6; decide) (by show 0 + (13 * 3 + 43) ≤ 90; decide) (by show 0 + 1 ≤ 1; decide) (by show 0 + 6 ≤ 6; decide) hlocks ?_ (fun z hz => nomatch hz) (Nat.le_refl _) (Nat.le_refl _)
  intro t ce ha z o h1 h2 h3
  exact ⟨rfl, j_pushx hP hK (by decide) z o h1 h2 h3, by rw [z]; exact Nat.le_succ _, fun q hq _ => o q hq⟩
/-- a callee throws, and it isn't caught here -/
theorem j_thru {p : Program} {e : Env} {R : Room} {s : State} {m : MethodId} {args : Array Value} {below : List Frame} {meth : Method} {c : Code} {H : Heap} {locs : List Loc} {cells slots : Nat} {ls : Array Slot} {Q : State → Prop} {st0 rest0 : List Value} {Qa : State → Outcome → State → Prop}
    (htab : c.exceptionTable.toList = tableOf (j_tab M.1)) (ht0 : j_tab M.1 = []) (hS : va_S (j_A ad) s.heap H locs) (hQ : j_K l D ad tc M p e R s m args below meth c (cells + 1) (slots + 6) Q (some (.retAddr k)) (exh h k)) (hQa : ∀ a b c, ¬ Qa a b c)
    (hr : vx_Run p l e R s m args below meth c H locs cells slots 1 6 (F0 m pc ls st0) rest0 Qa (j_XC D ad tc k (exh h k)) (j_A ad)) : W p l e R s m args below meth c H locs cells slots Q (F0 m pc ls st0) := by
  intro T hT X
  rcases hr T hT X with ⟨v, st₀, t, T', L', g0, X', hL, e1, e2, hbad, stp⟩ | ⟨q, st₀, t, T', L', E, ce, g0, X', hL, e1, e2, ⟨hE, hP1, hz, hk⟩, hce, hcv, hcl, stp⟩
  · exact absurd hbad (hQa _ _ _)
  · rw [g0] at hz hk
    obtain ⟨t2, a1, b1⟩ := hQ.2 k pc ls rest0 T'.heap (locs ++ L') q ce rfl (fun x hx => by rw [htab, ht0] at hx; exact absurd hx List.not_mem_nil) (by rw [e1]; exact hP1)
      ⟨Nat.le_trans hS.1 (by rw [e1]; exact hz), fun q h1 h2 => by rw [e1, hk q (Nat.lt_of_lt_of_le h1 hS.1) h2]; exact hS.2.1 q h1 h2, fun q hq => by
        rcases List.mem_append.mp hq with h | h
        · exact hS.2.2 q h
        · exact hL q h⟩ (by rw [e1]; exact hce) hcv (by rw [← hE]; exact hcl) T' rfl X'
    exact ⟨t2, stp.trans a1, b1⟩
/-- the contract out of the walk -/
theorem cx_of {lv0 : j_L} (hy : (plainName M.1.cls && (j_tab M.1).isEmpty) = true) (hlen : ∀ ad, (lg_sl (As.map (j_v ad))).length ≤ M.2.2.1) (hlv : ∀ ad, lv_args 0 (As.map (j_v ad)) = lv0.map (fun q : Nat × Value => (q.1, j_v ad q.2)))
    (kk : Rn l D ad tc L xs M d lo 0 lv0 [] h (some (.retAddr k)) (exh h k)) : Cx l D ad tc L xs M d lo As h k := by
  rw [Bool.and_eq_true] at hy
  obtain ⟨hy, hyt⟩ := hy
  intro hinj
  refine vx_ofW (cc := M.2.1) (maxL := M.2.2.1) (ret := M.2.2.2) hy rfl ?_
  intro p e s m args below meth c s₁ B hml htb hv
  obtain ⟨rfl, hP, hK, hkw, hX, hbl, hxw⟩ := hv
  have hts := atoms_spec (ws := j_ws M) B.pre
  have hown : s.vm.findClass M.1.cls = some m.cls := findClass_of_methodNamed B.named
  have hnm : meth.name = M.1.name := (name_of_methodNamed B.named B.method).1
  have hlocks := B.notSynchronized
  have htab : c.exceptionTable.toList = tableOf (j_tab M.1) := by
    rw [List.isEmpty_iff.mp hyt]
    exact List.eq_nil_iff_forall_not_mem.mpr fun x hx => htb x hx
  have hF : j_Fix D ad tc L xs M p s m (As.map (j_v ad)).toArray meth c := ⟨B.exec, B.bytes, hml, hown, fun w hw => hts w (List.mem_cons_of_mem _ hw), hkw, hK, hX, hbl, fun _ => hnm, hinj, hxw, fun _ => htab⟩
  have hl := lv_entry (As.map (j_v ad)) (n := M.2.2.1) (hlen ad)
  rw [lg_entry_eq]
  generalize (lg_sl (As.map (j_v ad)) ++ List.replicate (M.2.2.1 - (lg_sl (As.map (j_v ad))).length) Slot.unset).toArray = ls at hl ⊢
  rw [hlv ad] at hl
  refine kk.2 p e _ s m _ below meth c s.heap [] 0 0 1 6 ls _ hF (Nat.le_refl _) (Nat.le_refl _) (Nat.le_refl _) (Nat.le_refl _) (by rw [exh_len]; omega) (by show 0 + (h.2 + 6 - h.2) = 6; omega) hl hP va_S.rf ⟨fun pcr lsr Hr locsr ins hdr hret hPr hSr => ?_, fun k9 pcr lsr stk Hr locsr q ce hr9 hcov hPr hSr hce hcv hcl => ?_⟩
  · cases ins <;> exact absurd hret id
  · cases hr9
    exact vx_out hcov hlocks hce hcv hcl (fun t ht _ => ⟨rfl, by rw [ht]; exact hPr, hSr.F ht⟩) hSr.2.2 (Nat.le_refl _) (Nat.le_refl _)
theorem exh_mono : h.1.length ≤ (exh h k).1.length ∧ h.2 ≤ (exh h k).2 := ⟨by rw [exh_len]; omega, by show h.2 ≤ h.2 + 6; omega⟩
theorem rn_thruV {a ci : Nat} {q : vw_C} {fs : List Value} (hd : decode M.2.1 pc = .ok (.invokevirtual idx, 3)) (hw : j_cv M.1.cls idx N n) (hc : Cx l D ad tc L xs N d' lo' (.ref (a + 1) :: As) h k) (hn : As.length = n) (he : h.1[a]? = some (.inr (ci, fs))) (hq : j_cl[ci]? = some q) (hq1 : q.1 = N.1.cls)
    (hd1 : d' + 1 ≤ d) (hlo : 8 + (N.2.2.1 + 11) + lo' ≤ lo) (hst : st = As.reverse ++ .ref (a + 1) :: rest) (hsum : (rest.map fun v => v.category).sum ≤ 8) (ht0 : j_tab M.1 = []) (hnl : M.1.name ≠ "law" := by decide) : Rn l D ad tc L xs M d lo pc lv st h (some (.retAddr k)) (exh h k) := by
  subst hst
  refine ⟨exh_mono, fun p e R s m args below meth c H locs cells slots mc ms ls Q hF q1 q2 q3 q4 q5 q6 hl hP hS hQ => ?_⟩
  obtain ⟨w1, w2, w3, w4, w5, w6, w7, w8⟩ := hw
  have hts := hF.2.2.2.2.1
  have hrec := va_recv hF.2.2.2.2.2.2.1 hP.1 hq (j_w_get he)
  have e1 : cells + 1 = mc := by rw [exh_len] at q5; omega
  have e2 : slots + 6 = ms := by have q6' : slots + (h.2 + 6 - h.2) = ms := q6; omega
  subst e1
  subst e2
  refine j_thru (rest0 := rest.map (j_v ad)) (Qa := fun _ _ _ => False) (hF.2.2.2.2.2.2.2.2.2.2.2.2 hnl) ht0 hS hQ (fun _ _ _ => id) ?_
  refine vx_runV (Qc := fun _ _ _ _ => False) (bytes := N.2.1) (maxL := N.2.2.1) (ret := N.2.2.2) (As := As.map (j_v ad)) (rest := rest.map (j_v ad)) (b := ad (a + 1)) (C := N.1.cls) (n := n) (Ts := j_all) (nL := M.2.2.1) ⟨hF.1, hF.2.1, hF.2.2.1, hF.2.2.2.1, hts⟩ (hc hF.2.2.2.2.2.2.2.2.2.2.1) ?_ ⟨j_blind, by rw [← hq1]; exact hrec, fun U hU hW => ⟨rfl, j_at_call hF hP hS hU hW⟩⟩ rfl (by rw [List.length_map]; exact hn) hl.1 (by show List.map (j_v ad) (As.reverse ++ .ref (a + 1) :: rest) = _; rw [List.map_append, List.map_reverse]; rfl) (lv_room (by rw [List.map_map, show (Value.category ∘ j_v ad) = Value.category from funext fun v => j_cat v]; exact hsum)) hd ⟨by omega, by omega⟩
  exact ⟨⟨rfl, rfl, by show d' + 1 ≤ R.frames; omega, by show 8 + (N.2.2.1 + 11) + lo' ≤ R.locals; omega, pay_in hts (j_GI w5), List.mem_cons_self, hts _ w5, hts _ w4, ⟨w6, w7⟩, fun sig hs => by rw [hs] at w8; exact (Option.some.inj w8).symm, hts _ w1⟩, hts _ w2, hts _ w3⟩
theorem rn_thruS (hd : decode M.2.1 pc = .ok (.invokestatic idx, 3)) (hw : j_cs M.1.cls idx N n) (hc : Cx l D ad tc L xs N d' lo' As h k) (hn : As.length = n)
    (hd1 : d' + 1 ≤ d) (hlo : 8 + (N.2.2.1 + 11) + lo' ≤ lo) (hst : st = As.reverse ++ rest) (hsum : (rest.map fun v => v.category).sum ≤ 8) (ht0 : j_tab M.1 = []) (hnl : M.1.name ≠ "law" := by decide) : Rn l D ad tc L xs M d lo pc lv st h (some (.retAddr k)) (exh h k) := by
  subst hst
  refine ⟨exh_mono, fun p e R s m args below meth c H locs cells slots mc ms ls Q hF q1 q2 q3 q4 q5 q6 hl hP hS hQ => ?_⟩
  obtain ⟨w1, w2, w3, w4, w5, w6, w7⟩ := hw
  have hts := hF.2.2.2.2.1
  have e1 : cells + 1 = mc := by rw [exh_len] at q5; omega
  have e2 : slots + 6 = ms := by have q6' : slots + (h.2 + 6 - h.2) = ms := q6; omega
  subst e1
  subst e2
  refine j_thru (rest0 := rest.map (j_v ad)) (Qa := fun _ _ _ => False) (hF.2.2.2.2.2.2.2.2.2.2.2.2 hnl) ht0 hS hQ (fun _ _ _ => id) ?_
  refine vx_runS (Qc := fun _ _ _ _ => False) (bytes := N.2.1) (maxL := N.2.2.1) (ret := N.2.2.2) (As := As.map (j_v ad)) (rest := rest.map (j_v ad)) (n := n) (Ts := j_all) (nL := M.2.2.1) ⟨hF.1, hF.2.1, hF.2.2.1, hF.2.2.2.1, hts⟩ (hc hF.2.2.2.2.2.2.2.2.2.2.1) ?_ ⟨j_blind, fun U hU hW => ⟨rfl, j_at_call hF hP hS hU hW⟩⟩ rfl (by rw [List.length_map]; exact hn) hl.1 (by show List.map (j_v ad) (As.reverse ++ rest) = _; rw [List.map_append, List.map_reverse]) (lv_room (by rw [List.map_map, show (Value.category ∘ j_v ad) = Value.category from funext fun v => j_cat v]; exact hsum)) hd ⟨by omega, by omega⟩
  exact ⟨⟨rfl, rfl, by show d' + 1 ≤ R.frames; omega, by show 8 + (N.2.2.1 + 11) + lo' ≤ R.locals; omega, pay_in hts (j_GI w4), List.mem_cons_self, hts _ w4, hts _ w3, ⟨w5, w6⟩, fun sig hs => by rw [hs] at w7; exact (Option.some.inj w7).symm, hts _ w1⟩, hts _ w2⟩
/-- the locals without i -/
def j_d1 (i : Nat) (lv : j_L) : j_L := lv.filter (fun q => !(q.1 == i) && !(q.1 + 1 == i && q.2.category == 2))
theorem j_d1_map {i : Nat} : (lv.map (fun q : Nat × Value => (q.1, j_v ad q.2))).filter (fun q => !(q.1 == i) && !(q.1 + 1 == i && q.2.category == 2)) = (j_d1 i lv).map (fun q => (q.1, j_v ad q.2)) := (List.cons.inj (j_s1_map (ad := ad) (i := i) (v := .null) (lv := lv))).2
/-- a callee throws; a handler of this method takes it, and forgets the thing -/
theorem rn_catchV {a ci : Nat} {q : vw_C} {fs : List Value} {pre suf : List ExceptionTableEntry} {x : ExceptionTableEntry} {i w : Nat} (hd : decode M.2.1 pc = .ok (.invokevirtual idx, 3)) (hw : j_cv M.1.cls idx N n) (hc : Cx l D ad tc L xs N d' lo' (.ref (a + 1) :: As) h k) (hn : As.length = n) (he : h.1[a]? = some (.inr (ci, fs))) (hq : j_cl[ci]? = some q) (hq1 : q.1 = N.1.cls)
    (hd1 : d' + 1 ≤ d) (hlo : 8 + (N.2.2.1 + 11) + lo' ≤ lo) (hst : st = As.reverse ++ .ref (a + 1) :: rest) (hsum : (rest.map fun v => v.category).sum ≤ 8) (hk3 : k < 3)
    (ht0 : tableOf (j_tab M.1) = pre ++ x :: suf) (hpass : ∀ z ∈ pre, z.catchType ≠ 0 ∧ ∃ j, j < 3 ∧ k ≠ j ∧ Cond.classLink M.1.cls z.catchType (j_ex j) ∈ j_all) (hx : covers x pc = true) (h0 : x.catchType ≠ 0) (hlink : Cond.classLink M.1.cls x.catchType (j_ex k) ∈ j_all)
    (hda : (decode M.2.1 x.handlerPc = .ok (.astore i, 2) ∧ w = 2) ∨ ∃ k0 : Fin 4, decode M.2.1 x.handlerPc = .ok (.astore_n k0, 1) ∧ (k0 : Nat) = i ∧ w = 1) (hi : i < M.2.2.1) (hl' : j_d1 i lv = lv')
    (kk : Rn l D ad tc L xs M d lo (x.handlerPc + w) lv' [] (exh h k) r h') (hnl : M.1.name ≠ "law" := by decide) : Rn l D ad tc L xs M d lo pc lv st h r h' := by
  subst hst
  refine ⟨⟨Nat.le_trans exh_mono.1 kk.1.1, Nat.le_trans exh_mono.2 kk.1.2⟩, fun p e R s m args below meth c H locs cells slots mc ms ls Q hF q1 q2 q3 q4 q5 q6 hl hP hS hQ => ?_⟩
  obtain ⟨w1, w2, w3, w4, w5, w6, w7, w8⟩ := hw
  have hts := hF.2.2.2.2.1
  have hrec := va_recv hF.2.2.2.2.2.2.1 hP.1 hq (j_w_get he)
  have hxw := hF.2.2.2.2.2.2.2.2.2.2.2.1
  have hm1 := kk.1.1
  have hm2 := kk.1.2
  rw [exh_len] at hm1
  have hm3 : h.2 + 6 ≤ h'.2 := hm2
  have hr : vx_Run p l e R s m args below meth c H locs cells slots 1 6 (F0 m pc ls ((As.reverse ++ .ref (a + 1) :: rest).map (j_v ad))) (rest.map (j_v ad)) (fun _ _ _ => False) (j_XC D ad tc k (exh h k)) (j_A ad) := by
    refine vx_runV (Qc := fun _ _ _ _ => False) (bytes := N.2.1) (maxL := N.2.2.1) (ret := N.2.2.2) (As := As.map (j_v ad)) (rest := rest.map (j_v ad)) (b := ad (a + 1)) (C := N.1.cls) (n := n) (Ts := j_all) (nL := M.2.2.1) ⟨hF.1, hF.2.1, hF.2.2.1, hF.2.2.2.1, hts⟩ (hc hF.2.2.2.2.2.2.2.2.2.2.1) ?_ ⟨j_blind, by rw [← hq1]; exact hrec, fun U hU hW => ⟨rfl, j_at_call hF hP hS hU hW⟩⟩ rfl (by rw [List.length_map]; exact hn) hl.1 (by show List.map (j_v ad) (As.reverse ++ .ref (a + 1) :: rest) = _; rw [List.map_append, List.map_reverse]; rfl) (lv_room (by rw [List.map_map, show (Value.category ∘ j_v ad) = Value.category from funext fun v => j_cat v]; exact hsum)) hd ⟨by omega, by omega⟩
    exact ⟨⟨rfl, rfl, by show d' + 1 ≤ R.frames; omega, by show 8 + (N.2.2.1 + 11) + lo' ≤ R.locals; omega, pay_in hts (j_GI w5), List.mem_cons_self, hts _ w5, hts _ w4, ⟨w6, w7⟩, fun sig hs => by rw [hs] at w8; exact (Option.some.inj w8).symm, hts _ w1⟩, hts _ w2, hts _ w3⟩
  intro T hT X
  rcases hr T hT X with ⟨v, st₀, t, T', L', g0, X', hL, e1, e2, hbad, stp⟩ | ⟨qx, st₀, t, T', L', E, ce, g0, X', hL, e1, e2, ⟨hE, hP1, hz, hkp⟩, hce, hcv, hcl, stp⟩
  · exact absurd hbad id
  · rw [g0] at hz hkp
    have hS1 : va_S (j_A ad) s.heap T'.heap (locs ++ L') := ⟨Nat.le_trans hS.1 (by rw [e1]; exact hz), fun q h1 h2 => by rw [e1, hkp q (Nat.lt_of_lt_of_le h1 hS.1) h2]; exact hS.2.1 q h1 h2, fun q hq => by
        rcases List.mem_append.mp hq with h | h
        · exact hS.2.2 q h
        · exact hL q h⟩
    have hgo : ∀ ls2 : Array Slot, lv_has ls2 M.2.2.1 ((i, Value.ref qx) :: (j_d1 i lv).map (fun q => (q.1, j_v ad q.2))) → W p l e R s m args below meth c T'.heap (locs ++ L') (cells + 1) (slots + 6) Q (F0 m (x.handlerPc + w) ls2 []) := fun ls2 hl2 =>
      kk.2 p e R s m args below meth c T'.heap (locs ++ L') (cells + 1) (slots + 6) mc ms ls2 Q hF q1 q2 q3 q4 (by rw [exh_len]; omega) (by show slots + 6 + (h'.2 - (h.2 + 6)) = ms; omega) (by rw [← hl']; exact ⟨hl2.1, hl2.2.1, fun q hq => hl2.2.2 q (List.mem_cons_of_mem _ hq)⟩) (by rw [e1]; exact hP1) hS1 hQ
    have hcatch : vx_W p l e R s m args below meth c T'.heap (locs ++ L') (cells + 1) (slots + 6) Q (F0 m pc ls (rest.map (j_v ad))) qx := by
      refine vx_catch (E := E) (ce := ce) hF.2.2.2.1 pre x suf ((hF.2.2.2.2.2.2.2.2.2.2.2.2 hnl).trans ht0) (fun z hz => Or.inr ⟨(hpass z hz).1, ?_⟩) hx h0 (hts _ hlink) (by rw [hE]; exact va_Nw.use rfl (hxw.2.2.2.2.1 k hk3)) (by rw [e1]; exact hce) hcv hcl ?_
      · obtain ⟨j, hj, hkj, hw⟩ := (hpass z hz).2
        exact ⟨_, hts _ hw, by rw [hE]; exact hxw.2.2.2.2.2.1 k j hk3 hj hkj⟩
      · rcases hda with ⟨hda, rfl⟩ | ⟨k0, hda, hk0, rfl⟩
        · exact lv_astore (lv' := (i, Value.ref qx) :: (j_d1 i lv).map (fun q => (q.1, j_v ad q.2))) hF.1 hF.2.1 hda hl hi (by rw [j_d1_map]) hgo
        · exact lv_astore_n (i := i) (lv' := (i, Value.ref qx) :: (j_d1 i lv).map (fun q => (q.1, j_v ad q.2))) hF.1 hF.2.1 hda hk0 hl hi (by rw [j_d1_map]) hgo
    obtain ⟨t2, a1, b1⟩ := hcatch T' rfl X'
    exact ⟨t2, stp.trans a1, b1⟩
/-- the law's own methods with handlers -/
def j_wsH (M : j_M) (hh : List (Nat × Nat × Nat × Nat)) : List Cond := Cond.codeWith M.1 M.2.1 M.2.2.1 M.2.2.2 hh :: j_all
theorem j_GIH {hh : List (Nat × Nat × Nat × Nat)} (hc : Cond.codeWith M.1 M.2.1 M.2.2.1 M.2.2.2 hh ∈ j_all) : GoodIn j_all (j_wsH M hh) := fun w h => by
  rcases List.mem_cons.mp h with rfl | h
  · exact ⟨hc, good_of_word (j_good _ hc)⟩
  · exact ⟨h, good_of_word (j_good _ h)⟩
def Ch (l : Launch) (D : va_G) (ad : Nat → Nat) (tc : Nat → ClassId) (L : Nat) (xs : Nat → Int32) (M : j_M) (hh : List (Nat × Nat × Nat × Nat)) (d lo : Nat) (As : List Value) (h : j_H) (v : Int32) (h' : j_H) : Prop :=
  (h.1.length ≤ h'.1.length ∧ h.2 ≤ h'.2) ∧ ((∀ i j, ad i = ad j → i = j) → vx_Met l M.1 (j_wsH M hh) { frames := d, cells := h'.1.length - h.1.length, slots := h'.2 - h.2, locals := lo } (va_Pc (As.map (j_v ad)) (j_In D ad tc L xs h)) (j_Q D ad tc (some (.int v)) h') (fun _ _ _ => False) (h'.1.length - h.1.length) (h'.2 - h.2) (j_A ad))
theorem ch_of {lv0 : j_L} {hh : List (Nat × Nat × Nat × Nat)} {v : Int32} (hy : plainName M.1.cls = true) (hh0 : j_tab M.1 = hh) (hret : M.2.2.2 = some .int) (hlen : ∀ ad, (lg_sl (As.map (j_v ad))).length ≤ M.2.2.1) (hlv : ∀ ad, lv_args 0 (As.map (j_v ad)) = lv0.map (fun q : Nat × Value => (q.1, j_v ad q.2)))
    (k : Rn l D ad tc L xs M d lo 0 lv0 [] h (some (.int v)) h') : Ch l D ad tc L xs M hh d lo As h v h' := by
  refine ⟨k.1, fun hinj => ?_⟩
  refine vx_ofWH (cc := M.2.1) (maxL := M.2.2.1) (ret := M.2.2.2) (hh := hh) hy rfl ?_
  intro p e s m args below meth c s₁ B hml hv
  obtain ⟨rfl, hP, hK, hkw, hX, hbl, hxw⟩ := hv
  have hts := atoms_spec (ws := j_wsH M hh) B.pre
  have hown : s.vm.findClass M.1.cls = some m.cls := findClass_of_methodNamed B.named
  have hnm : meth.name = M.1.name := (name_of_methodNamed B.named B.method).1
  have hr := B.returns
  have hlocks := B.notSynchronized
  have htab : c.exceptionTable.toList = tableOf (j_tab M.1) := by
    rw [hh0]
    exact vx_table (x := M.1) B (hts _ List.mem_cons_self)
  have hF : j_Fix D ad tc L xs M p s m (As.map (j_v ad)).toArray meth c := ⟨B.exec, B.bytes, hml, hown, fun w hw => hts w (List.mem_cons_of_mem _ hw), hkw, hK, hX, hbl, fun _ => hnm, hinj, hxw, fun _ => htab⟩
  have hl := lv_entry (As.map (j_v ad)) (n := M.2.2.1) (hlen ad)
  rw [lg_entry_eq]
  generalize (lg_sl (As.map (j_v ad)) ++ List.replicate (M.2.2.1 - (lg_sl (As.map (j_v ad))).length) Slot.unset).toArray = ls at hl ⊢
  rw [hlv ad] at hl
  refine k.2 p e _ s m _ below meth c s.heap [] 0 0 (h'.1.length - h.1.length) (h'.2 - h.2) ls _ hF (Nat.le_refl _) (Nat.le_refl _) (Nat.le_refl _) (Nat.le_refl _) (by omega) (by omega) hl hP va_S.rf ⟨fun pcr lsr Hr locsr ins hdr hret2 hPr hSr => ?_, fun k9 pcr lsr stk Hr locsr q ce hr9 => by cases hr9⟩
  have hx := B.exec
  have hb := B.bytes
  match ins, hret2 with
  | .ireturn, _ => exact vx_ret (W.zret (ty := .int) hx hb (hr.trans hret) rfl (fun t ht _ => ⟨rfl, by rw [ht]; exact hPr, hSr.F ht⟩) hSr.2.2 hdr hlocks)
theorem rn_callSW {hh : List (Nat × Nat × Nat × Nat)} {v : Int32} (hd : decode M.2.1 pc = .ok (.invokestatic idx, 3)) (hw : j_csw M.1.cls idx N n hh) (hc : Ch l D ad tc L xs N hh d' lo' As h v h1) (hn : As.length = n)
    (hd1 : d' + 1 ≤ d) (hlo : 8 + (N.2.2.1 + 11) + lo' ≤ lo) (hst : st = As.reverse ++ rest) (hsum : (rest.map fun v => v.category).sum ≤ 8)
    (k : Rn l D ad tc L xs M d lo (pc + 3) lv (.int v :: rest) h1 r h') : Rn l D ad tc L xs M d lo pc lv st h r h' := by
  subst hst
  refine ⟨⟨Nat.le_trans hc.1.1 k.1.1, Nat.le_trans hc.1.2 k.1.2⟩, fun p e R s m args below meth c H locs cells slots mc ms ls Q hF q1 q2 q3 q4 q5 q6 hl hP hS hQ => ?_⟩
  have hts := hF.2.2.2.2.1
  have hk0 := k.1
  have hc0 := hc.1
  obtain ⟨w1, w2, w3, w4, w5, w6, w7⟩ := hw
  have hr : vx_Run p l e R s m args below meth c H locs cells slots (h1.1.length - h.1.length) (h1.2 - h.2) (F0 m pc ls ((As.reverse ++ rest).map (j_v ad))) (rest.map (j_v ad)) (j_Q D ad tc (some (.int v)) h1 (As.map (j_v ad)).toArray) (fun _ _ _ => False) (j_A ad) := by
    refine vx_runSX (hh := hh) (bytes := N.2.1) (maxL := N.2.2.1) (ret := N.2.2.2) (As := As.map (j_v ad)) (rest := rest.map (j_v ad)) (n := n) (Ts := j_all) (nL := M.2.2.1) ⟨hF.1, hF.2.1, hF.2.2.1, hF.2.2.2.1, hts⟩ (hc.2 hF.2.2.2.2.2.2.2.2.2.2.1) ?_ ⟨j_blind, fun U hU hW => ⟨rfl, j_at_call hF hP hS hU hW⟩⟩ rfl (by rw [List.length_map]; exact hn) hl.1 (by show List.map (j_v ad) (As.reverse ++ rest) = _; rw [List.map_append, List.map_reverse]) (lv_room (by rw [List.map_map, show (Value.category ∘ j_v ad) = Value.category from funext fun v => j_cat v]; exact hsum)) hd ⟨by omega, by omega⟩
    exact ⟨⟨rfl, rfl, by show d' + 1 ≤ R.frames; omega, by show 8 + (N.2.2.1 + 11) + lo' ≤ R.locals; omega, pay_in hts (j_GIH w4), List.mem_cons_self⟩, hts _ w4, hts _ w3, ⟨w5, w6⟩, fun sig hs => by rw [hs] at w7; exact (Option.some.inj w7).symm, hts _ w1, hts _ w2⟩
  refine j_run (rv := some (.int v)) (a := (As.map (j_v ad)).toArray) hF q1 q2 q3 q4 q5 q6 hl hS hQ hc.1 (fun T hT X => ?_) k
  rcases hr T hT X with hh | ⟨q, st₀, t, T', L', E, ce, g0, X', hL, e1, e2, hbad, -⟩
  · exact hh
  · exact absurd hbad id
theorem rn_getfieldN {idx ci k a : Nat} {fs : List Value} {v : Value} (hd : decode M.2.1 pc = .ok (.getfield idx, 3)) (hf : j_fon M.1.cls idx ci k) (he : h.1[a]? = some (.inr (ci, fs))) (hv : fs[k]? = some v)
    (kk : Rn l D ad tc L xs M d lo (pc + 3) lv (v :: st) h r h') : Rn l D ad tc L xs M d lo pc lv (.ref (a + 1) :: st) h r h' := by
  refine rn_pure (fun p e R s m args below meth c H locs cells slots ls Q hF hd1 hd2 hl hP hS kw => ?_) kk
  obtain ⟨C, T, N, host, f1, f2, f3, f4, f5⟩ := hf
  obtain ⟨hx, hb, hml, hown, hts, hkw, hK, hX, hbl, hnm, hinj, hxw, htab⟩ := hF
  exact va_getN (D := D) (cl := j_cl) (tys := j_tys tc) (ws := j_w ad tc h.1) (ci := ci) (fs := fs.map (j_v ad)) hx hb hts f3 hown hK hP.1 a (j_w_get he) f1 k f2 (va_Nw.use rfl (hxw.2.2.2.1.1 _ f4)) (fun x hx2 => by rw [f5] at hx2; exact hx2) (by rw [List.getElem?_map, hv]; rfl) hd kw
/-- the empty row that the lists share: it lies outside of the cells -/
theorem rn_getAL (hM : M.1.cls = RJx4a65c) (hw : Cond.fieldLink RJx4a65c 39 RJx4a65c "DEFAULTCAPACITY_EMPTY_ELEMENTDATA" "[Ljava/lang/Object;" ∈ j_all) (hd : decode M.2.1 pc = .ok (.getstatic 39, 3)) (kk : Rn l D ad tc L xs M d lo (pc + 3) lv (.retAddr (j_a0 D) :: st) h r h') : Rn l D ad tc L xs M d lo pc lv st h r h' :=
  rn_pure (fun p e R s m args below meth c H locs cells slots ls Q hF hd1 hd2 hl hP hS kw => va_gets hF.1 hF.2.1 hF.2.2.2.2.2.2.2.2.2.2.2.1.2.2.1.1 hS (hM ▸ hF.2.2.2.1) (hF.2.2.2.2.1 _ hw) (fun x hx => hx) hd kw) kk
theorem rn_alenAL (hd : decode M.2.1 pc = .ok (.arraylength, 1)) (kk : Rn l D ad tc L xs M d lo (pc + 1) lv (.int 0 :: st) h r h') : Rn l D ad tc L xs M d lo pc lv (.retAddr (j_a0 D) :: st) h r h' :=
  rn_pure (fun p e R s m args below meth c H locs cells slots ls Q hF hd1 hd2 hl hP hS kw => va_tlen hF.1 hF.2.1 hF.2.2.2.2.2.2.2.2.2.2.2.1.2.2.1.2 hS (v := 0) rfl hd kw) kk
theorem rn_acmp_eqS {a : Nat} {off : Int} {tgt : Nat} (hd : decode M.2.1 pc = .ok (.if_acmp .eq off, 3)) (ht : (pc : Int) + off = (tgt : Int)) (kk : Rn l D ad tc L xs M d lo tgt lv st h r h') : Rn l D ad tc L xs M d lo pc lv (.retAddr a :: .retAddr a :: st) h r h' :=
  rn_pure (fun p e R s m args below meth c H locs cells slots ls Q hF hd1 hd2 hl hP hS kw => lv_acmp_eq (rx := some a) (ry := some a) hF.1 hF.2.1 hd ht (fun _ => kw) (fun z => absurd rfl z)) kk
theorem rn_aload_nS {k0 : Fin 4} {x : Nat} (hd : decode M.2.1 pc = .ok (.aload_n k0, 1)) (hg : j_g lv (k0 : Nat) = some (.retAddr x)) (k : Rn l D ad tc L xs M d lo (pc + 1) lv (.retAddr x :: st) h r h') : Rn l D ad tc L xs M d lo pc lv (st) h r h' :=
  rn_pure (fun p e R s m args below meth c H locs cells slots ls Q hF hd1 hd2 hl hP hS k => lv_aload_n hF.1 hF.2.1 hd rfl (j_at hl hg) k) k
end J7
