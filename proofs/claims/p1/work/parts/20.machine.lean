/-! THE LITTLE MACHINE: a run of a method over a list of numbered cells; its rules stand on the kit's rows, and are used without them -/
abbrev j_C : Type := (Nat × vp_A) ⊕ (Nat × List Value)
abbrev j_H : Type := List j_C × Nat
abbrev j_M : Type := MethodName × ByteArray × Nat × Option FieldType
abbrev j_L : Type := List (Nat × Value)
def j_v (ad : Nat → Nat) : Value → Value := fun v => match v with
  | .ref a => .ref (ad a)
  | .retAddr a => .ref a
  | v => v
def j_f (ad : Nat → Nat) (f : Nat → Option Nat) : Nat → Option Nat := fun j => (f j).map ad
def j_c (ad : Nat → Nat) (tc : Nat → ClassId) : j_C → va_E := fun x => match x with
  | .inl (t, n, .inl f) => .inl (tc t, n, .inl f)
  | .inl (t, n, .inr (.inl f)) => .inl (tc t, n, .inr (.inl f))
  | .inl (t, n, .inr (.inr (.inl f))) => .inl (tc t, n, .inr (.inr (.inl f)))
  | .inl (t, n, .inr (.inr (.inr (.inl f)))) => .inl (tc t, n, .inr (.inr (.inr (.inl f))))
  | .inl (t, n, .inr (.inr (.inr (.inr f)))) => .inl (tc t, n, .inr (.inr (.inr (.inr (j_f ad f)))))
  | .inr (c, fs) => .inr (c, fs.map (j_v ad))
def j_w (ad : Nat → Nat) (tc : Nat → ClassId) (G : List j_C) : va_W := G.mapIdx (fun k c => (ad (k + 1), j_c ad tc c))
def j_tys (tc : Nat → ClassId) : List (ClassId × FieldType) := j_ty.mapIdx (fun t ty => (tc t, ty))
def j_A (ad : Nat → Nat) : Nat → Prop := fun q => ∃ k, q = ad (k + 1)
def j_KW (U : State) : Prop := (∀ w ∈ j_nm, va_Nw (.methodLinkNest w.1 w.2.1 w.2.2.1 w.2.2.2) U) ∧ ∀ C ∈ j_ao, va_AO C U
def j_P (D : va_G) (ad : Nat → Nat) (tc : Nat → ClassId) (H : Heap) (h : j_H) : Prop := va_P D j_cl (j_w ad tc h.1) H ∧ ∀ k, ad (h.1.length + 1 + k) = H.size + k
def j_lv (ad : Nat → Nat) (ls : Array Slot) (n : Nat) (lv : j_L) : Prop := lv_has ls n (lv.map (fun q => (q.1, j_v ad q.2)))
/-- an absolute address, that lies outside of the cells, is written .retAddr; a thrown class by its number too, as a result -/
def j_ex : Nat → String := fun k => match k with
  | 0 => "java/lang/IllegalStateException"
  | 1 => "java/lang/IndexOutOfBoundsException"
  | _ => "java/lang/IllegalArgumentException"
/-- arrays over arrays of t: the words of the start, said of any state of its tables -/
def j_oa (t : FieldType) (U : State) : Prop := (Cond.arrayOver (.array t)).before #[] U = true
theorem j_oa.moved {t : FieldType} {u U : State} (hvm : u.vm.Alike U.vm) (h : j_oa t u) : j_oa t U := by
  obtain ⟨comp, c, k, h1, h2, h3, h4, h5⟩ := arrayOverA_spec h
  obtain ⟨k', hk', he⟩ := hvm.2.2 _ _ h3
  have b1 := va_idx_bare U.vm comp
  have b2 := va_idx_bare u.vm comp
  first | rw [← hvm.bare_eq] at b1 | rw [hvm.bare_eq] at b1
  have hi := b1.symm.trans (b2.trans h2)
  have f0 : k'.kind = .array comp (.array t) := by rw [he]; exact h4
  have f1 : U.vm.findClass (FieldType.array t).toString = some comp := by rw [hvm.findClass]; exact h1
  have f2 : U.vm.findClass ("[" ++ (FieldType.array t).toString) = some c := by rw [hvm.findClass]; exact h5
  unfold j_oa Cond.before Cond.holds
  simp only [Cond.value]
  rw [f1, Option.bind_some]
  refine (congrArg (fun o : Option Nat => (o.bind (fun c => (U.vm.classes[c]?).map fun (k : Class) => match k.kind with | .array _ ty => decide (ty = FieldType.array t) && decide (U.vm.findClass ("[" ++ (FieldType.array t).toString) = some c) | _ => false) == some true)) hi).trans ?_
  simp [hk', f0, f2]
def j_a0 (D : va_G) : Nat := D.2 99 0
def j_ALd : String := "DEFAULTCAPACITY_EMPTY_ELEMENTDATA"
def j_ALt : String := "[Ljava/lang/Object;"
def j_t1 : String := "there is no such clock, corner or node"
def j_t2 : String := "not what the document asks for"
def j_dw : List MethodName := [Bundle.initS "java/lang/RuntimeException", Bundle.initS "java/lang/Exception", Bundle.initS Bundle.tN]
/-- what the start gives besides: the statics, the texts, the casts -/
def j_Xw (D : va_G) (A : Nat → Prop) (U : State) (H : Heap) : Prop :=
  (vx_Zq Bundle.tN "UNASSIGNED_STACK" Bundle.steD A U H ∧ vx_Zq Bundle.tN "SUPPRESSED_SENTINEL" Bundle.listD A U H) ∧ ((∃ sa, vk_R RX9 267 j_t1 sa U) ∧ ∃ sa, vk_R RX9 272 j_t2 sa U) ∧
  (va_Z RJx4a65c j_ALd j_ALt (.ref (j_a0 D)) A U H ∧ va_T (.object "java/lang/Object") (j_a0 D) 0 (fun _ => .null) A U H) ∧
  ((∀ w ∈ j_nf, va_Nw (.fieldLinkNest w.1 w.2.1 w.2.2.1 w.2.2.2.1 w.2.2.2.2.1 w.2.2.2.2.2) U) ∧ va_Fw RJx35411 ⟨"java/util/Iterator", "hasNext", "()Z"⟩ yJx35411_hasNext_aae02 U ∧ (j_oa .double U ∧ j_oa (.array .double) U)) ∧
  ((∀ k, k < 3 → va_Nw (.castable (j_ex k) (j_ex k)) U) ∧ (∀ k j, k < 3 → j < 3 → k ≠ j → va_Nc (j_ex k) (j_ex j) U) ∧ (∀ w ∈ j_dw, va_Nw (.declares w) U) ∧ va_Nw (.castable "[I" "java/lang/Object") U)
theorem j_Xw.kept {D : va_G} {A : Nat → Prop} {U : State} {H H1 : Heap} (h : j_Xw D A U H) (hq : ∀ a : Nat, a < H.size → ¬ A a → H1[a]? = H[a]?) : j_Xw D A U H1 := by
  obtain ⟨⟨a1, a2⟩, b, ⟨c1, c2⟩, d, e⟩ := h
  exact ⟨⟨a1.kept hq, a2.kept hq⟩, b, ⟨c1.kept hq, c2.kept hq⟩, d, e⟩
theorem j_Xw.warm {D : va_G} {A : Nat → Prop} {s U : State} {H : Heap} (hW : s.WarmedH U.vm) (h : j_Xw D A s H) : j_Xw D A U H := by
  obtain ⟨⟨a1, a2⟩, ⟨⟨s1, b1⟩, ⟨s2, b2⟩⟩, ⟨c1, c2⟩, ⟨d1, d2, d3, d4⟩, ⟨e1, e2, e3, e4⟩⟩ := h
  exact ⟨⟨a1.moved hW.alike, a2.moved hW.alike⟩, ⟨⟨s1, b1.warm hW⟩, ⟨s2, b2.warm hW⟩⟩, ⟨c1.moved hW.alike, c2.moved hW.alike⟩, ⟨fun w hw => va_Nw.warmF hW (d1 w hw), d2.moved (by decide) hW.alike, d3.moved hW.alike, d4.moved hW.alike⟩, ⟨fun k hk => va_Nw.warmC hW (e1 k hk), fun k j hk hj hn => (e2 k j hk hj hn).moved hW.alike, fun w hw => va_Nw.warmD hW (e3 w hw), va_Nw.warmC hW e4⟩⟩
theorem j_Xw.same {D : va_G} {A : Nat → Prop} {s U : State} {H : Heap} (hv : s.vm = U.vm) (h : j_Xw D A s H) : j_Xw D A U H := h.warm (by rw [← hv]; exact State.WarmedH.refl s)
/-- the rows of a method's own table: the law's handlers alone -/
def j_tab : MethodName → List (Nat × Nat × Nat × Nat) := fun y => if y.cls = RL then (if y.name = "law" then [] else j_hh y.name) else []
def j_Fix (D : va_G) (ad : Nat → Nat) (tc : Nat → ClassId) (L : Nat) (xs : Nat → Int32) (M : j_M) (p : Program) (s : State) (m : MethodId) (args : Array Value) (meth : Method) (c : Code) : Prop :=
  p.tables.exec = Jvm.exec ∧ c.code = M.2.1 ∧ c.maxLocals = M.2.2.1 ∧ s.vm.findClass M.1.cls = some m.cls ∧ (∀ w ∈ j_all, w.before args s = true) ∧ j_KW s ∧ va_K D j_cl (j_tys tc) s ∧ va_X (ad 0) L xs s s.heap ∧ ad 0 < s.heap.size ∧ (M.1.name = "<init>" → meth.name = M.1.name) ∧ (∀ i j, ad i = ad j → i = j) ∧ j_Xw D (j_A ad) s s.heap ∧ (M.1.name ≠ "law" → c.exceptionTable.toList = tableOf (j_tab M.1))
def j_ret (ins : Instr) (r : Option Value) : Prop := match ins, r with
  | .ireturn, some (.int _) => True
  | .lreturn, some (.long _) => True
  | .freturn, some (.float _) => True
  | .dreturn, some (.double _) => True
  | .areturn, some (.ref _) => True
  | .areturn, some .null => True
  | .return_, none => True
  | _, _ => False
/-- how it goes on: behind a return of r over h', or with the class r thrown -/
def j_K (l : Launch) (D : va_G) (ad : Nat → Nat) (tc : Nat → ClassId) (M : j_M) (p : Program) (e : Env) (R : Room) (s : State) (m : MethodId) (args : Array Value) (below : List Frame) (meth : Method) (c : Code) (mc ms : Nat) (Q : State → Prop) (r : Option Value) (h' : j_H) : Prop :=
  (∀ (pcr : Nat) (lsr : Array Slot) (Hr : Heap) (locsr : List Loc) (ins : Instr), decode M.2.1 pcr = .ok (ins, 1) → j_ret ins r → j_P D ad tc Hr h' → va_S (j_A ad) s.heap Hr locsr → W p l e R s m args below meth c Hr locsr mc ms Q (F0 m pcr lsr (r.toList.map (j_v ad)))) ∧
  ∀ (k pcr : Nat) (lsr : Array Slot) (stk : List Value) (Hr : Heap) (locsr : List Loc) (q : Addr) (ce : Cell), r = some (.retAddr k) → (∀ x ∈ c.exceptionTable.toList, covers x pcr = false) → j_P D ad tc Hr h' → va_S (j_A ad) s.heap Hr locsr → Hr[q]? = some ce → ce.vm = .none → s.vm.findClass (j_ex k) = some ce.cls → vx_W p l e R s m args below meth c Hr locsr mc ms Q (F0 m pcr lsr stk) q
/-- from this point of the method M, over the cells h, it comes to a return of r over the cells h' -/
def Rn (l : Launch) (D : va_G) (ad : Nat → Nat) (tc : Nat → ClassId) (L : Nat) (xs : Nat → Int32) (M : j_M) (d lo pc : Nat) (lv : j_L) (st : List Value) (h : j_H) (r : Option Value) (h' : j_H) : Prop :=
  (h.1.length ≤ h'.1.length ∧ h.2 ≤ h'.2) ∧
  ∀ (p : Program) (e : Env) (R : Room) (s : State) (m : MethodId) (args : Array Value) (below : List Frame) (meth : Method) (c : Code) (H : Heap) (locs : List Loc) (cells slots mc ms : Nat) (ls : Array Slot) (Q : State → Prop),
    j_Fix D ad tc L xs M p s m args meth c → d ≤ R.frames → lo ≤ R.locals → mc ≤ R.cells → ms ≤ R.slots →
    cells + (h'.1.length - h.1.length) = mc → slots + (h'.2 - h.2) = ms → j_lv ad ls M.2.2.1 lv → j_P D ad tc H h → va_S (j_A ad) s.heap H locs →
    j_K l D ad tc M p e R s m args below meth c mc ms Q r h' →
    W p l e R s m args below meth c H locs cells slots Q (F0 m pc ls (st.map (j_v ad)))
section J1
variable {l : Launch} {D : va_G} {ad : Nat → Nat} {tc : Nat → ClassId} {L : Nat} {xs : Nat → Int32} {M : j_M} {d lo pc pc' : Nat} {lv lv' : j_L} {st st' : List Value} {h h' h2 : j_H} {r : Option Value}
/-- a step that changes neither cells nor locals -/
theorem rn_pure (f : ∀ (p : Program) (e : Env) (R : Room) (s : State) (m : MethodId) (args : Array Value) (below : List Frame) (meth : Method) (c : Code) (H : Heap) (locs : List Loc) (cells slots : Nat) (ls : Array Slot) (Q : State → Prop),
    j_Fix D ad tc L xs M p s m args meth c → d ≤ R.frames → lo ≤ R.locals → j_lv ad ls M.2.2.1 lv → j_P D ad tc H h → va_S (j_A ad) s.heap H locs → W p l e R s m args below meth c H locs cells slots Q (F0 m pc' ls (st'.map (j_v ad))) → W p l e R s m args below meth c H locs cells slots Q (F0 m pc ls (st.map (j_v ad))))
    (k : Rn l D ad tc L xs M d lo pc' lv st' h r h') : Rn l D ad tc L xs M d lo pc lv st h r h' :=
  ⟨k.1, fun p e R s m args below meth c H locs cells slots mc ms ls Q hF h1 h2 h3 h4 h5 h6 hl hP hS hQ => f p e R s m args below meth c H locs cells slots ls Q hF h1 h2 hl hP hS (k.2 p e R s m args below meth c H locs cells slots mc ms ls Q hF h1 h2 h3 h4 h5 h6 hl hP hS hQ)⟩
/-- a step that changes locals -/
theorem rn_loc (f : ∀ (p : Program) (e : Env) (R : Room) (s : State) (m : MethodId) (args : Array Value) (below : List Frame) (meth : Method) (c : Code) (H : Heap) (locs : List Loc) (cells slots : Nat) (ls : Array Slot) (Q : State → Prop),
    j_Fix D ad tc L xs M p s m args meth c → j_lv ad ls M.2.2.1 lv → (∀ ls : Array Slot, j_lv ad ls M.2.2.1 lv' → W p l e R s m args below meth c H locs cells slots Q (F0 m pc' ls (st'.map (j_v ad)))) → W p l e R s m args below meth c H locs cells slots Q (F0 m pc ls (st.map (j_v ad))))
    (k : Rn l D ad tc L xs M d lo pc' lv' st' h r h') : Rn l D ad tc L xs M d lo pc lv st h r h' :=
  ⟨k.1, fun p e R s m args below meth c H locs cells slots mc ms ls Q hF h1 h2 h3 h4 h5 h6 hl hP hS hQ => f p e R s m args below meth c H locs cells slots ls Q hF hl (fun ls hl => k.2 p e R s m args below meth c H locs cells slots mc ms ls Q hF h1 h2 h3 h4 h5 h6 hl hP hS hQ)⟩
/-- a step that changes a cell -/
theorem rn_cell (e1 : h2.1.length = h.1.length) (e2 : h2.2 = h.2) (f : ∀ (p : Program) (e : Env) (R : Room) (s : State) (m : MethodId) (args : Array Value) (below : List Frame) (meth : Method) (c : Code) (H : Heap) (locs : List Loc) (cells slots : Nat) (ls : Array Slot) (Q : State → Prop),
    j_Fix D ad tc L xs M p s m args meth c → j_lv ad ls M.2.2.1 lv → j_P D ad tc H h → va_S (j_A ad) s.heap H locs → (∀ (H : Heap) (locs : List Loc), j_P D ad tc H h2 → va_S (j_A ad) s.heap H locs → W p l e R s m args below meth c H locs cells slots Q (F0 m pc' ls (st'.map (j_v ad)))) → W p l e R s m args below meth c H locs cells slots Q (F0 m pc ls (st.map (j_v ad))))
    (k : Rn l D ad tc L xs M d lo pc' lv st' h2 r h') : Rn l D ad tc L xs M d lo pc lv st h r h' :=
  ⟨by rw [← e1, ← e2]; exact k.1, fun p e R s m args below meth c H locs cells slots mc ms ls Q hF h1 h2 h3 h4 h5 h6 hl hP hS hQ => f p e R s m args below meth c H locs cells slots ls Q hF hl hP hS (fun H locs hP hS => k.2 p e R s m args below meth c H locs cells slots mc ms ls Q hF h1 h2 h3 h4 (by rw [e1]; exact h5) (by rw [e2]; exact h6) hl hP hS hQ)⟩
/-- a step that makes a cell of n slots -/
theorem rn_make {x : j_C} {n : Nat} (f : ∀ (p : Program) (e : Env) (R : Room) (s : State) (m : MethodId) (args : Array Value) (below : List Frame) (meth : Method) (c : Code) (H : Heap) (locs : List Loc) (cells slots : Nat) (ls : Array Slot) (Q : State → Prop),
    j_Fix D ad tc L xs M p s m args meth c → cells + 1 ≤ R.cells → slots + n ≤ R.slots → j_P D ad tc H h → va_S (j_A ad) s.heap H locs → (∀ (H : Heap), j_P D ad tc H (h.1 ++ [x], h.2 + n) → va_S (j_A ad) s.heap H locs → W p l e R s m args below meth c H locs (cells + 1) (slots + n) Q (F0 m pc' ls (st'.map (j_v ad)))) → W p l e R s m args below meth c H locs cells slots Q (F0 m pc ls (st.map (j_v ad))))
    (k : Rn l D ad tc L xs M d lo pc' lv st' (h.1 ++ [x], h.2 + n) r h') : Rn l D ad tc L xs M d lo pc lv st h r h' := by
  have hk := k.1
  simp only [List.length_append, List.length_cons, List.length_nil] at hk
  refine ⟨⟨by omega, by omega⟩, fun p e R s m args below meth c H locs cells slots mc ms ls Q hF h1 h2 h3 h4 h5 h6 hl hP hS hQ => f p e R s m args below meth c H locs cells slots ls Q hF (by omega) (by omega) hP hS (fun H hP hS => k.2 p e R s m args below meth c H locs (cells + 1) (slots + n) mc ms ls Q hF h1 h2 h3 h4 ?_ ?_ hl hP hS hQ)⟩
  · simp only [List.length_append, List.length_cons, List.length_nil]
    omega
  · show slots + n + (h'.2 - (h.2 + n)) = ms
    omega
end J1
