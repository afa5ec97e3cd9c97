/-! THE LITTLE MACHINE: a run of a method over a list of numbered cells; its rules stand on the kit's rows, and are used without them -/
abbrev j_C : Type := (Nat × vp_A) ⊕ (Nat × List Value)
abbrev j_H : Type := List j_C × Nat
abbrev j_M : Type := MethodName × ByteArray × Nat × Option FieldType
abbrev j_L : Type := List (Nat × Value)
def j_v (ad : Nat → Nat) : Value → Value := fun v => match v with
  | .ref a => .ref (ad a)
  | v => v
def j_f (ad : Nat → Nat) (f : Nat → Option Nat) : Nat → Option Nat := fun j => (f j).map ad
def j_c (ad : Nat → Nat) (tc : Nat → ClassId) : j_C → va_E := fun x => match x with
  | .inl (t, n, .inl f) => .inl (tc t, n, .inl f)
  | .inl (t, n, .inr (.inl f)) => .inl (tc t, n, .inr (.inl f))
  | .inl (t, n, .inr (.inr (.inl f))) => .inl (tc t, n, .inr (.inr (.inl f)))
  | .inl (t, n, .inr (.inr (.inr (.inl f)))) => .inl (tc t, n, .inr (.inr (.inr (.inl f))))
  | .inl (t, n, .inr (.inr (.inr (.inr f)))) => .inl (tc t, n, .inr (.inr (.inr (.inr (j_f ad f)))))
  | .inr (c, fs) => .inr (c, fs.map (j_v ad))
def j_w (ad : Nat → Nat) (tc : Nat → ClassId) (G : List j_C) : va_W := G.mapIdx (fun k c => (ad (k + 1), j_c ad tc c))
def j_tys (tc : Nat → ClassId) : List (ClassId × FieldType) := j_ty.mapIdx (fun t ty => (tc t, ty))
def j_A (ad : Nat → Nat) : Nat → Prop := fun q => ∃ k, q = ad (k + 1)
def j_KW (U : State) : Prop := (∀ w ∈ j_nm, va_Nw (.methodLinkNest w.1 w.2.1 w.2.2.1 w.2.2.2) U) ∧ ∀ C ∈ j_ao, va_AO C U
def j_P (D : va_G) (ad : Nat → Nat) (tc : Nat → ClassId) (H : Heap) (h : j_H) : Prop := va_P D j_cl (j_w ad tc h.1) H ∧ ∀ k, ad (h.1.length + 1 + k) = H.size + k
def j_lv (ad : Nat → Nat) (ls : Array Slot) (n : Nat) (lv : j_L) : Prop := lv_has ls n (lv.map (fun q => (q.1, j_v ad q.2)))
/-- arrays over arrays of t: the words of the start, said of any state of its tables -/
def j_oa (t : FieldType) (U : State) : Prop := (Cond.arrayOver (.array t)).before #[] U = true
theorem j_oa.moved {t : FieldType} {u U : State} (hvm : u.vm.Alike U.vm) (h : j_oa t u) : j_oa t U := by
  obtain ⟨comp, c, k, h1, h2, h3, h4, h5⟩ := arrayOverA_spec h
  obtain ⟨k', hk', he⟩ := hvm.2.2 _ _ h3
  have b1 := va_idx_bare U.vm comp
  have b2 := va_idx_bare u.vm comp
  first | rw [← hvm.bare_eq] at b1 | rw [hvm.bare_eq] at b1
  have hi := b1.symm.trans (b2.trans h2)
  have f0 : k'.kind = .array comp (.array t) := by rw [he]; exact h4
  have f1 : U.vm.findClass (FieldType.array t).toString = some comp := by rw [hvm.findClass]; exact h1
  have f2 : U.vm.findClass ("[" ++ (FieldType.array t).toString) = some c := by rw [hvm.findClass]; exact h5
  unfold j_oa Cond.before Cond.holds
  simp only [Cond.value]
  rw [f1, Option.bind_some]
  refine (congrArg (fun o : Option Nat => (o.bind (fun c => (U.vm.classes[c]?).map fun (k : Class) => match k.kind with | .array _ ty => decide (ty = FieldType.array t) && decide (U.vm.findClass ("[" ++ (FieldType.array t).toString) = some c) | _ => false) == some true)) hi).trans ?_
  simp [hk', f0, f2]
/-- what the start gives besides: the static of Math, rows of int rows -/
def j_Xw (D : va_G) (A : Nat → Prop) (U : State) (H : Heap) : Prop := va_Z "java/lang/Math" "negativeZeroDoubleBits" "J" (.long (-9223372036854775808)) A U H ∧ j_oa .int U
theorem j_Xw.kept {D : va_G} {A : Nat → Prop} {U : State} {H H1 : Heap} (h : j_Xw D A U H) (hq : ∀ a : Nat, a < H.size → ¬ A a → H1[a]? = H[a]?) : j_Xw D A U H1 := ⟨h.1.kept hq, h.2⟩
theorem j_Xw.warm {D : va_G} {A : Nat → Prop} {s U : State} {H : Heap} (hW : s.WarmedH U.vm) (h : j_Xw D A s H) : j_Xw D A U H := ⟨h.1.moved hW.alike, h.2.moved hW.alike⟩
theorem j_Xw.same {D : va_G} {A : Nat → Prop} {s U : State} {H : Heap} (hv : s.vm = U.vm) (h : j_Xw D A s H) : j_Xw D A U H := h.warm (by rw [← hv]; exact State.WarmedH.refl s)
def j_Fix (D : va_G) (ad : Nat → Nat) (tc : Nat → ClassId) (L : Nat) (xs : Nat → Int32) (M : j_M) (p : Program) (s : State) (m : MethodId) (args : Array Value) (meth : Method) (c : Code) : Prop :=
  p.tables.exec = Jvm.exec ∧ c.code = M.2.1 ∧ c.maxLocals = M.2.2.1 ∧ s.vm.findClass M.1.cls = some m.cls ∧ (∀ w ∈ j_all, w.before args s = true) ∧ j_KW s ∧ va_K D j_cl (j_tys tc) s ∧ va_X (ad 0) L xs s s.heap ∧ ad 0 < s.heap.size ∧ (M.1.name = "<init>" → meth.name = M.1.name) ∧ (∀ i j, ad i = ad j → i = j) ∧ j_Xw D (j_A ad) s s.heap
def j_ret (ins : Instr) (r : Option Value) : Prop := match ins, r with
  | .ireturn, some (.int _) => True
  | .lreturn, some (.long _) => True
  | .freturn, some (.float _) => True
  | .dreturn, some (.double _) => True
  | .areturn, some (.ref _) => True
  | .areturn, some .null => True
  | .return_, none => True
  | _, _ => False
/-- from this point of the method M, over the cells h, it comes to a return of r over the cells h' -/
def Rn (l : Launch) (D : va_G) (ad : Nat → Nat) (tc : Nat → ClassId) (L : Nat) (xs : Nat → Int32) (M : j_M) (d lo pc : Nat) (lv : j_L) (st : List Value) (h : j_H) (r : Option Value) (h' : j_H) : Prop :=
  (h.1.length ≤ h'.1.length ∧ h.2 ≤ h'.2) ∧
  ∀ (p : Program) (e : Env) (R : Room) (s : State) (m : MethodId) (args : Array Value) (below : List Frame) (meth : Method) (c : Code) (H : Heap) (locs : List Loc) (cells slots mc ms : Nat) (ls : Array Slot) (Q : State → Prop),
    j_Fix D ad tc L xs M p s m args meth c → d ≤ R.frames → lo ≤ R.locals → mc ≤ R.cells → ms ≤ R.slots →
    cells + (h'.1.length - h.1.length) = mc → slots + (h'.2 - h.2) = ms → j_lv ad ls M.2.2.1 lv → j_P D ad tc H h → va_S (j_A ad) s.heap H locs →
    (∀ (pcr : Nat) (lsr : Array Slot) (Hr : Heap) (locsr : List Loc) (ins : Instr), decode M.2.1 pcr = .ok (ins, 1) → j_ret ins r → j_P D ad tc Hr h' → va_S (j_A ad) s.heap Hr locsr → W p l e R s m args below meth c Hr locsr mc ms Q (F0 m pcr lsr (r.toList.map (j_v ad)))) →
    W p l e R s m args below meth c H locs cells slots Q (F0 m pc ls (st.map (j_v ad)))
section J1
variable {l : Launch} {D : va_G} {ad : Nat → Nat} {tc : Nat → ClassId} {L : Nat} {xs : Nat → Int32} {M : j_M} {d lo pc pc' : Nat} {lv lv' : j_L} {st st' : List Value} {h h' h2 : j_H} {r : Option Value}
/-- a step that changes neither cells nor locals -/
theorem rn_pure (f : ∀ (p : Program) (e : Env) (R : Room) (s : State) (m : MethodId) (args : Array Value) (below : List Frame) (meth : Method) (c : Code) (H : Heap) (locs : List Loc) (cells slots : Nat) (ls : Array Slot) (Q : State → Prop),
    j_Fix D ad tc L xs M p s m args meth c → d ≤ R.frames → lo ≤ R.locals → j_lv ad ls M.2.2.1 lv → j_P D ad tc H h → va_S (j_A ad) s.heap H locs → W p l e R s m args below meth c H locs cells slots Q (F0 m pc' ls (st'.map (j_v ad))) → W p l e R s m args below meth c H locs cells slots Q (F0 m pc ls (st.map (j_v ad))))
    (k : Rn l D ad tc L xs M d lo pc' lv st' h r h') : Rn l D ad tc L xs M d lo pc lv st h r h' :=
  ⟨k.1, fun p e R s m args below meth c H locs cells slots mc ms ls Q hF h1 h2 h3 h4 h5 h6 hl hP hS hQ => f p e R s m args below meth c H locs cells slots ls Q hF h1 h2 hl hP hS (k.2 p e R s m args below meth c H locs cells slots mc ms ls Q hF h1 h2 h3 h4 h5 h6 hl hP hS hQ)⟩
/-- a step that changes locals -/
theorem rn_loc (f : ∀ (p : Program) (e : Env) (R : Room) (s : State) (m : MethodId) (args : Array Value) (below : List Frame) (meth : Method) (c : Code) (H : Heap) (locs : List Loc) (cells slots : Nat) (ls : Array Slot) (Q : State → Prop),
    j_Fix D ad tc L xs M p s m args meth c → j_lv ad ls M.2.2.1 lv → (∀ ls : Array Slot, j_lv ad ls M.2.2.1 lv' → W p l e R s m args below meth c H locs cells slots Q (F0 m pc' ls (st'.map (j_v ad)))) → W p l e R s m args below meth c H locs cells slots Q (F0 m pc ls (st.map (j_v ad))))
    (k : Rn l D ad tc L xs M d lo pc' lv' st' h r h') : Rn l D ad tc L xs M d lo pc lv st h r h' :=
  ⟨k.1, fun p e R s m args below meth c H locs cells slots mc ms ls Q hF h1 h2 h3 h4 h5 h6 hl hP hS hQ => f p e R s m args below meth c H locs cells slots ls Q hF hl (fun ls hl => k.2 p e R s m args below meth c H locs cells slots mc ms ls Q hF h1 h2 h3 h4 h5 h6 hl hP hS hQ)⟩
/-- a step that changes a cell -/
theorem rn_cell (e1 : h2.1.length = h.1.length) (e2 : h2.2 = h.2) (f : ∀ (p : Program) (e : Env) (R : Room) (s : State) (m : MethodId) (args : Array Value) (below : List Frame) (meth : Method) (c : Code) (H : Heap) (locs : List Loc) (cells slots : Nat) (ls : Array Slot) (Q : State → Prop),
    j_Fix D ad tc L xs M p s m args meth c → j_lv ad ls M.2.2.1 lv → j_P D ad tc H h → va_S (j_A ad) s.heap H locs → (∀ (H : Heap) (locs : List Loc), j_P D ad tc H h2 → va_S (j_A ad) s.heap H locs → W p l e R s m args below meth c H locs cells slots Q (F0 m pc' ls (st'.map (j_v ad)))) → W p l e R s m args below meth c H locs cells slots Q (F0 m pc ls (st.map (j_v ad))))
    (k : Rn l D ad tc L xs M d lo pc' lv st' h2 r h') : Rn l D ad tc L xs M d lo pc lv st h r h' :=
  ⟨by rw [← e1, ← e2]; exact k.1, fun p e R s m args below meth c H locs cells slots mc ms ls Q hF h1 h2 h3 h4 h5 h6 hl hP hS hQ => f p e R s m args below meth c H locs cells slots ls Q hF hl hP hS (fun H locs hP hS => k.2 p e R s m args below meth c H locs cells slots mc ms ls Q hF h1 h2 h3 h4 (by rw [e1]; exact h5) (by rw [e2]; exact h6) hl hP hS hQ)⟩
/-- a step that makes a cell of n slots -/
theorem rn_make {x : j_C} {n : Nat} (f : ∀ (p : Program) (e : Env) (R : Room) (s : State) (m : MethodId) (args : Array Value) (below : List Frame) (meth : Method) (c : Code) (H : Heap) (locs : List Loc) (cells slots : Nat) (ls : Array Slot) (Q : State → Prop),
    j_Fix D ad tc L xs M p s m args meth c → cells + 1 ≤ R.cells → slots + n ≤ R.slots → j_P D ad tc H h → va_S (j_A ad) s.heap H locs → (∀ (H : Heap), j_P D ad tc H (h.1 ++ [x], h.2 + n) → va_S (j_A ad) s.heap H locs → W p l e R s m args below meth c H locs (cells + 1) (slots + n) Q (F0 m pc' ls (st'.map (j_v ad)))) → W p l e R s m args below meth c H locs cells slots Q (F0 m pc ls (st.map (j_v ad))))
    (k : Rn l D ad tc L xs M d lo pc' lv st' (h.1 ++ [x], h.2 + n) r h') : Rn l D ad tc L xs M d lo pc lv st h r h' := by
  have hk := k.1
  simp only [List.length_append, List.length_cons, List.length_nil] at hk
  refine ⟨⟨by omega, by omega⟩, fun p e R s m args below meth c H locs cells slots mc ms ls Q hF h1 h2 h3 h4 h5 h6 hl hP hS hQ => f p e R s m args below meth c H locs cells slots ls Q hF (by omega) (by omega) hP hS (fun H hP hS => k.2 p e R s m args below meth c H locs (cells + 1) (slots + n) mc ms ls Q hF h1 h2 h3 h4 ?_ ?_ hl hP hS hQ)⟩
  · simp only [List.length_append, List.length_cons, List.length_nil]
    omega
  · show slots + n + (h'.2 - (h.2 + n)) = ms
    omega
end J1
