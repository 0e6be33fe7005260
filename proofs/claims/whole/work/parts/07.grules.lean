/-! The judgement and its rules -/
/-- a method: its name, code, locals, answer, table of handlers -/
abbrev ga_M : Type := MethodName × ByteArray × Nat × Option FieldType × List ExceptionTableEntry
def ga_Wd (M : ga_M) : List Cond := Cond.code M.1 M.2.1 M.2.2.1 M.2.2.2.1 :: ga_Gl
def ga_Rm (d nc ns : Nat) : Room := { frames := d, cells := nc, slots := ns, locals := 64 * d }
/-- what the tables say beside the good words -/
def ga_Nst : List (String × Nat × MethodName) := [("RecurrenceAnswers", 29, yX2_init), ("RecurrenceAnswers$Answers", 11, yX5_init), ("RecurrenceAnswers$Answers", 24, yX6_init), ("RecurrenceAnswers", 43, yX7_init), ("RecurrenceAnswers", 50, yX5_init)]
def ga_Tab (E : ga_E) (s : State) : Prop := va_K E.1 vwCl (ga_Tys E) s ∧ (∀ q ∈ ga_Nst, va_Nw (.methodLinkNest q.1 q.2.1 q.2.2 "RecurrenceAnswers") s) ∧ va_AO RX6 s ∧ va_AOA .int s ∧ ga_Str s
theorem ga_Tab.warm {E : ga_E} {s U : State} (hW : s.WarmedH U.vm) (h : ga_Tab E s) : ga_Tab E U := ⟨va_K.moved hW.alike h.1, fun q hq => va_Nw.warmM hW (h.2.1 q hq), va_AO.moved hW.alike h.2.2.1, va_AOA.moved hW.alike h.2.2.2.1, ga_Str.warm hW h.2.2.2.2⟩
theorem ga_Tab.call {E : ga_E} {U : State} {g : JFrame} {mk : MethodId} {a : Array Value} (h : ga_Tab E U) : ga_Tab E (U.calling g mk a) := ⟨va_K.moved (Vm.Alike.refl U.vm) h.1, fun q hq => va_Nw.same rfl rfl (h.2.1 q hq), va_AO.moved (Vm.Alike.refl U.vm) h.2.2.1, va_AOA.moved (Vm.Alike.refl U.vm) h.2.2.2.1, ga_Str.same rfl h.2.2.2.2⟩
/-- a method's start and its end -/
def ga_Pre (E : ga_E) (h : ga_H) (U : State) : Prop := ga_N0 E ≤ U.heap.size ∧ ga_Tab E U ∧ ga_Stc E U U.heap ∧ ga_C E h U.heap
def ga_Q (E : ga_E) (Post : Option Value → ga_H → Prop) : Array Value → State → Outcome → State → Prop := fun _ st o t => (∃ r h', o = .returned r ∧ Post r h' ∧ ga_C E h' t.heap) ∧ va_F (ga_A E) st t
theorem ga_Pre_blind {E : ga_E} {h : ga_H} {As : List Value} : FrameBlind (va_Pc As (ga_Pre E h)) := fun a U g mk q => by
  obtain ⟨q0, q1, q2, q3, q4⟩ := q
  exact ⟨q0, q1, q2.call, q3.moved (Vm.Alike.refl U.vm), q4⟩
/-- THE CONTRACT of a method that returns -/
def ga_Ok (l : Launch) (E : ga_E) (d : Nat) (M : ga_M) (As : List Value) (h : ga_H) (nc ns : Nat) (Post : Option Value → ga_H → Prop) : Prop := Met l M.1 (ga_Wd M) (ga_Rm d nc ns) (va_Pc As (ga_Pre E h)) (ga_Q E Post) nc ns (ga_A E)
/-- what holds in a frame of M from its entry on -/
def ga_Cx (E : ga_E) (M : ga_M) (p : Program) (s : State) (m : MethodId) (args : Array Value) (meth : Method) (c : Code) : Prop :=
  p.tables.exec = Jvm.exec ∧ c.code = M.2.1 ∧ c.maxLocals = M.2.2.1 ∧ meth.sig.returnType = M.2.2.2.1 ∧ meth.locks = false ∧ meth.name = M.1.name ∧ s.vm.findClass M.1.cls = some m.cls ∧ (∀ w ∈ ga_Gl, w.before args s = true) ∧ ga_N0 E ≤ s.heap.size ∧ ga_Tab E s ∧ c.exceptionTable.toList = M.2.2.2.2 ∧ ga_Stc E s s.heap
/-- THE JUDGEMENT: from here the machine comes to an end as Z wants it -/
def ga_G (l : Launch) (E : ga_E) (M : ga_M) (R : Room) (Z : List Frame → Array Value → State → State → Prop) (pc : Nat) (lv : List (Option Value)) (st : List Value) (h : ga_H) (cells slots : Nat) : Prop :=
  ∀ (p : Program) (e : Env) (s : State) (m : MethodId) (args : Array Value) (below : List Frame) (meth : Method) (c : Code) (H : Heap) (locs : List Loc) (ls : Array Slot), ga_Cx E M p s m args meth c → ga_C E h H → va_S (ga_A E) s.heap H locs → ga_L ls M.2.2.1 lv →
    W p l e R s m args below meth c H locs cells slots (Z below args s) (F0 m pc ls st)
def ga_Z (E : ga_E) (Post : Option Value → ga_H → Prop) (nc ns : Nat) : List Frame → Array Value → State → State → Prop := fun below args s => MQ below (ga_Q E Post) args s nc ns (ga_A E)
/-- a contract out of a walk -/
theorem ga_Ok.of {l : Launch} {E : ga_E} {d : Nat} {M : ga_M} {As : List Value} {h : ga_H} {nc ns : Nat} {Post : Option Value → ga_H → Prop} (k : Nat) (lv : List (Option Value)) (hy : plainName M.1.cls = true) (hx : M.2.2.2.2 = []) (ha : (lg_sl As).length ≤ M.2.2.1) (hlv : ga_args As ++ List.replicate k none = lv)
    (g : ga_G l E M (ga_Rm d nc ns) (ga_Z E Post nc ns) 0 lv [] h 0 0) : ga_Ok l E d M As h nc ns Post := by
  refine Met.ofW (cc := M.2.1) (maxL := M.2.2.1) (ret := M.2.2.2.1) hy rfl ?_
  intro p e s m args below meth c s₁ B hml hv
  obtain ⟨rfl, hv⟩ := hv
  have hts := atoms_spec (ws := ga_Wd M) B.pre
  rw [lg_entry_eq]
  subst hlv
  refine g p e s m _ below meth c s.heap [] _ ⟨B.exec, B.bytes, hml, B.returns, B.notSynchronized, (name_of_methodNamed B.named B.method).1, findClass_of_methodNamed B.named, fun w hw => hts w (List.mem_cons_of_mem _ hw), hv.1, hv.2.1, ?_, hv.2.2.1⟩ hv.2.2.2 va_S.rf (ga_L.entry As ha)
  have he := BodyLoose.noHandlers B (hts _ List.mem_cons_self)
  rw [hx]
  simpa using he

section GR
variable {l : Launch} {E : ga_E} {M : ga_M} {R : Room} {Z : List Frame → Array Value → State → State → Prop} {pc : Nat} {lv lv' : List (Option Value)} {st : List Value} {h h' : ga_H} {cells slots : Nat}
/-- another name for the stack's top *)-/
theorem gr_top {x y : Value} (e : x = y) (k : ga_G l E M R Z pc lv (y :: st) h cells slots) : ga_G l E M R Z pc lv (x :: st) h cells slots := e ▸ k
theorem gr_lv (e : lv = lv') (k : ga_G l E M R Z pc lv' st h cells slots) : ga_G l E M R Z pc lv st h cells slots := e ▸ k
theorem gr_h (e : h = h') (k : ga_G l E M R Z pc lv st h' cells slots) : ga_G l E M R Z pc lv st h cells slots := e ▸ k
theorem gr_weak (hw : ∀ (i : Nat) (v : Value), lv'[i]? = some (some v) → lv[i]? = some (some v)) (k : ga_G l E M R Z pc lv' st h cells slots) : ga_G l E M R Z pc lv st h cells slots := fun p e s m args below meth c H locs ls X hc hS hl => k p e s m args below meth c H locs ls X hc hS (hl.weaken hw)
theorem gr_drop (hw : ∀ a c, h' a = some c → h a = some c) (k : ga_G l E M R Z pc lv st h' cells slots) : ga_G l E M R Z pc lv st h cells slots := fun p e s m args below meth c H locs ls X hc hS hl => k p e s m args below meth c H locs ls X (hc.sub hw) hS hl
theorem gr_wide {k n : Nat} (h1 : cells ≤ k) (h2 : slots ≤ n) (kk : ga_G l E M R Z pc lv st h k n) : ga_G l E M R Z pc lv st h cells slots := fun p e s m args below meth c H locs ls X hc hS hl => W.widen h1 h2 (kk p e s m args below meth c H locs ls X hc hS hl)

theorem gr_iconst {n : Int} {v : Int32} (hd : decode M.2.1 pc = .ok (.iconst n, 1)) (hv : Int32.ofInt n = v) (k : ga_G l E M R Z (pc + 1) lv (.int v :: st) h cells slots) : ga_G l E M R Z pc lv st h cells slots := by
  intro p e s m args below meth c H locs ls X hc hS hl
  exact lv_iconst X.1 X.2.1 hd hv (k p e s m args below meth c H locs ls X hc hS hl)
theorem gr_bipush {n : Int} {v : Int32} (hd : decode M.2.1 pc = .ok (.bipush n, 2)) (hv : (Int8.ofInt n).toInt32 = v) (k : ga_G l E M R Z (pc + 2) lv (.int v :: st) h cells slots) : ga_G l E M R Z pc lv st h cells slots := by
  intro p e s m args below meth c H locs ls X hc hS hl
  exact lv_bipush X.1 X.2.1 hd hv (k p e s m args below meth c H locs ls X hc hS hl)
theorem gr_sipush {n : Int} {v : Int32} (hd : decode M.2.1 pc = .ok (.sipush n, 3)) (hv : (Int16.ofInt n).toInt32 = v) (k : ga_G l E M R Z (pc + 3) lv (.int v :: st) h cells slots) : ga_G l E M R Z pc lv st h cells slots := by
  intro p e s m args below meth c H locs ls X hc hS hl
  exact lv_sipush X.1 X.2.1 hd hv (k p e s m args below meth c H locs ls X hc hS hl)
theorem gr_lconst {n : Fin 2} {v : Int64} (hd : decode M.2.1 pc = .ok (.lconst n, 1)) (hv : Int64.ofNat (n : Nat) = v) (k : ga_G l E M R Z (pc + 1) lv (.long v :: st) h cells slots) : ga_G l E M R Z pc lv st h cells slots := by
  intro p e s m args below meth c H locs ls X hc hS hl
  exact lv_lconst X.1 X.2.1 hd hv (k p e s m args below meth c H locs ls X hc hS hl)
theorem gr_ldc2 {index : Nat} {v : Int64} (hd : decode M.2.1 pc = .ok (.ldc2_w index, 3)) (hw : Cond.constantLong M.1.cls index v ∈ ga_Gl) (k : ga_G l E M R Z (pc + 3) lv (.long v :: st) h cells slots) : ga_G l E M R Z pc lv st h cells slots := by
  intro p e s m args below meth c H locs ls X hc hS hl
  exact lv_ldc2 X.1 X.2.1 X.2.2.2.2.2.2.1 (X.2.2.2.2.2.2.2.1 _ hw) hd (k p e s m args below meth c H locs ls X hc hS hl)
theorem gr_iload_n {k0 : Fin 4} {x : Int32} (hd : decode M.2.1 pc = .ok (.iload_n k0, 1)) (hx : lv[(k0 : Nat)]? = some (some (.int x))) (k : ga_G l E M R Z (pc + 1) lv (.int x :: st) h cells slots) : ga_G l E M R Z pc lv st h cells slots := by
  intro p e s m args below meth c H locs ls X hc hS hl
  exact lv_iload_n X.1 X.2.1 hd rfl (hl.2.2 _ _ hx) (k p e s m args below meth c H locs ls X hc hS hl)
theorem gr_iload {i : Nat} {x : Int32} (hd : decode M.2.1 pc = .ok (.iload i, 2)) (hx : lv[i]? = some (some (.int x))) (k : ga_G l E M R Z (pc + 2) lv (.int x :: st) h cells slots) : ga_G l E M R Z pc lv st h cells slots := by
  intro p e s m args below meth c H locs ls X hc hS hl
  exact lv_iload X.1 X.2.1 hd (hl.2.2 _ _ hx) (k p e s m args below meth c H locs ls X hc hS hl)
theorem gr_lload_n {k0 : Fin 4} {x : Int64} (hd : decode M.2.1 pc = .ok (.lload_n k0, 1)) (hx : lv[(k0 : Nat)]? = some (some (.long x))) (k : ga_G l E M R Z (pc + 1) lv (.long x :: st) h cells slots) : ga_G l E M R Z pc lv st h cells slots := by
  intro p e s m args below meth c H locs ls X hc hS hl
  exact lv_lload_n X.1 X.2.1 hd rfl (hl.2.2 _ _ hx) (k p e s m args below meth c H locs ls X hc hS hl)
theorem gr_lload {i : Nat} {x : Int64} (hd : decode M.2.1 pc = .ok (.lload i, 2)) (hx : lv[i]? = some (some (.long x))) (k : ga_G l E M R Z (pc + 2) lv (.long x :: st) h cells slots) : ga_G l E M R Z pc lv st h cells slots := by
  intro p e s m args below meth c H locs ls X hc hS hl
  exact lv_lload X.1 X.2.1 hd (hl.2.2 _ _ hx) (k p e s m args below meth c H locs ls X hc hS hl)
theorem gr_aload_n {k0 : Fin 4} {x : Nat} (hd : decode M.2.1 pc = .ok (.aload_n k0, 1)) (hx : lv[(k0 : Nat)]? = some (some (.ref x))) (k : ga_G l E M R Z (pc + 1) lv (.ref x :: st) h cells slots) : ga_G l E M R Z pc lv st h cells slots := by
  intro p e s m args below meth c H locs ls X hc hS hl
  exact lv_aload_n X.1 X.2.1 hd rfl (hl.2.2 _ _ hx) (k p e s m args below meth c H locs ls X hc hS hl)
theorem gr_aload {i : Nat} {x : Nat} (hd : decode M.2.1 pc = .ok (.aload i, 2)) (hx : lv[i]? = some (some (.ref x))) (k : ga_G l E M R Z (pc + 2) lv (.ref x :: st) h cells slots) : ga_G l E M R Z pc lv st h cells slots := by
  intro p e s m args below meth c H locs ls X hc hS hl
  exact lv_aload X.1 X.2.1 hd (hl.2.2 _ _ hx) (k p e s m args below meth c H locs ls X hc hS hl)
theorem gr_iadd {x y : Int32} (hd : decode M.2.1 pc = .ok (.iadd, 1)) (k : ga_G l E M R Z (pc + 1) lv (.int (x + y) :: st) h cells slots) : ga_G l E M R Z pc lv (.int y :: .int x :: st) h cells slots := by
  intro p e s m args below meth c H locs ls X hc hS hl
  exact lv_iadd X.1 X.2.1 hd (k p e s m args below meth c H locs ls X hc hS hl)
theorem gr_isub {x y : Int32} (hd : decode M.2.1 pc = .ok (.isub, 1)) (k : ga_G l E M R Z (pc + 1) lv (.int (x - y) :: st) h cells slots) : ga_G l E M R Z pc lv (.int y :: .int x :: st) h cells slots := by
  intro p e s m args below meth c H locs ls X hc hS hl
  exact lv_isub X.1 X.2.1 hd (k p e s m args below meth c H locs ls X hc hS hl)
theorem gr_imul {x y : Int32} (hd : decode M.2.1 pc = .ok (.imul, 1)) (k : ga_G l E M R Z (pc + 1) lv (.int (x * y) :: st) h cells slots) : ga_G l E M R Z pc lv (.int y :: .int x :: st) h cells slots := by
  intro p e s m args below meth c H locs ls X hc hS hl
  exact lv_imul X.1 X.2.1 hd (k p e s m args below meth c H locs ls X hc hS hl)
theorem gr_iand {x y : Int32} (hd : decode M.2.1 pc = .ok (.iand, 1)) (k : ga_G l E M R Z (pc + 1) lv (.int (x &&& y) :: st) h cells slots) : ga_G l E M R Z pc lv (.int y :: .int x :: st) h cells slots := by
  intro p e s m args below meth c H locs ls X hc hS hl
  exact lv_iand X.1 X.2.1 hd (k p e s m args below meth c H locs ls X hc hS hl)
theorem gr_ladd {x y : Int64} (hd : decode M.2.1 pc = .ok (.ladd, 1)) (k : ga_G l E M R Z (pc + 1) lv (.long (x + y) :: st) h cells slots) : ga_G l E M R Z pc lv (.long y :: .long x :: st) h cells slots := by
  intro p e s m args below meth c H locs ls X hc hS hl
  exact lv_ladd X.1 X.2.1 hd (k p e s m args below meth c H locs ls X hc hS hl)
theorem gr_lmul {x y : Int64} (hd : decode M.2.1 pc = .ok (.lmul, 1)) (k : ga_G l E M R Z (pc + 1) lv (.long (x * y) :: st) h cells slots) : ga_G l E M R Z pc lv (.long y :: .long x :: st) h cells slots := by
  intro p e s m args below meth c H locs ls X hc hS hl
  exact lv_lmul X.1 X.2.1 hd (k p e s m args below meth c H locs ls X hc hS hl)
theorem gr_land {x y : Int64} (hd : decode M.2.1 pc = .ok (.land, 1)) (k : ga_G l E M R Z (pc + 1) lv (.long (x &&& y) :: st) h cells slots) : ga_G l E M R Z pc lv (.long y :: .long x :: st) h cells slots := by
  intro p e s m args below meth c H locs ls X hc hS hl
  exact lv_land X.1 X.2.1 hd (k p e s m args below meth c H locs ls X hc hS hl)
theorem gr_lor {x y : Int64} (hd : decode M.2.1 pc = .ok (.lor, 1)) (k : ga_G l E M R Z (pc + 1) lv (.long (x ||| y) :: st) h cells slots) : ga_G l E M R Z pc lv (.long y :: .long x :: st) h cells slots := by
  intro p e s m args below meth c H locs ls X hc hS hl
  exact lv_lor X.1 X.2.1 hd (k p e s m args below meth c H locs ls X hc hS hl)
theorem gr_lxor {x y : Int64} (hd : decode M.2.1 pc = .ok (.lxor, 1)) (k : ga_G l E M R Z (pc + 1) lv (.long (x ^^^ y) :: st) h cells slots) : ga_G l E M R Z pc lv (.long y :: .long x :: st) h cells slots := by
  intro p e s m args below meth c H locs ls X hc hS hl
  exact lv_lxor X.1 X.2.1 hd (k p e s m args below meth c H locs ls X hc hS hl)
theorem gr_idiv {x y : Int32} (hd : decode M.2.1 pc = .ok (.idiv, 1)) (hne : ¬ y = 0) (k : ga_G l E M R Z (pc + 1) lv (.int (x / y) :: st) h cells slots) : ga_G l E M R Z pc lv (.int y :: .int x :: st) h cells slots := by
  intro p e s m args below meth c H locs ls X hc hS hl
  exact lv_idiv X.1 X.2.1 hd hne (k p e s m args below meth c H locs ls X hc hS hl)
theorem gr_irem {x y : Int32} (hd : decode M.2.1 pc = .ok (.irem, 1)) (hne : ¬ y = 0) (k : ga_G l E M R Z (pc + 1) lv (.int (x - x / y * y) :: st) h cells slots) : ga_G l E M R Z pc lv (.int y :: .int x :: st) h cells slots := by
  intro p e s m args below meth c H locs ls X hc hS hl
  exact lv_irem X.1 X.2.1 hd hne (k p e s m args below meth c H locs ls X hc hS hl)
theorem gr_lrem {x y : Int64} (hd : decode M.2.1 pc = .ok (.lrem, 1)) (hne : ¬ y = 0) (k : ga_G l E M R Z (pc + 1) lv (.long (x - x / y * y) :: st) h cells slots) : ga_G l E M R Z pc lv (.long y :: .long x :: st) h cells slots := by
  intro p e s m args below meth c H locs ls X hc hS hl
  exact lv_lrem X.1 X.2.1 hd hne (k p e s m args below meth c H locs ls X hc hS hl)
theorem gr_ishr {x y : Int32} (hd : decode M.2.1 pc = .ok (.ishr, 1)) (k : ga_G l E M R Z (pc + 1) lv (.int (x >>> (y &&& 31)) :: st) h cells slots) : ga_G l E M R Z pc lv (.int y :: .int x :: st) h cells slots := by
  intro p e s m args below meth c H locs ls X hc hS hl
  exact lv_ishr X.1 X.2.1 hd (k p e s m args below meth c H locs ls X hc hS hl)
theorem gr_lshl {x : Int64} {y : Int32} (hd : decode M.2.1 pc = .ok (.lshl, 1)) (k : ga_G l E M R Z (pc + 1) lv (.long (x <<< (y.toInt64 &&& 63)) :: st) h cells slots) : ga_G l E M R Z pc lv (.int y :: .long x :: st) h cells slots := by
  intro p e s m args below meth c H locs ls X hc hS hl
  exact lv_lshl X.1 X.2.1 hd rfl (k p e s m args below meth c H locs ls X hc hS hl)
theorem gr_i2l {x : Int32} {v : Int64} (hd : decode M.2.1 pc = .ok (.i2l, 1)) (hv : x.toInt64 = v) (k : ga_G l E M R Z (pc + 1) lv (.long v :: st) h cells slots) : ga_G l E M R Z pc lv (.int x :: st) h cells slots := by
  intro p e s m args below meth c H locs ls X hc hS hl
  exact lv_i2l X.1 X.2.1 hd hv (k p e s m args below meth c H locs ls X hc hS hl)
theorem gr_l2i {x : Int64} {v : Int32} (hd : decode M.2.1 pc = .ok (.l2i, 1)) (hv : x.toInt32 = v) (k : ga_G l E M R Z (pc + 1) lv (.int v :: st) h cells slots) : ga_G l E M R Z pc lv (.long x :: st) h cells slots := by
  intro p e s m args below meth c H locs ls X hc hS hl
  exact lv_l2i X.1 X.2.1 hd hv (k p e s m args below meth c H locs ls X hc hS hl)
theorem gr_lcmp {x y : Int64} (hd : decode M.2.1 pc = .ok (.lcmp, 1)) (k : ga_G l E M R Z (pc + 1) lv (.int (lg_cmp x y) :: st) h cells slots) : ga_G l E M R Z pc lv (.long y :: .long x :: st) h cells slots := by
  intro p e s m args below meth c H locs ls X hc hS hl
  exact W.lcmp X.1 X.2.1 hd (k p e s m args below meth c H locs ls X hc hS hl)
theorem gr_dup {v : Value} (hd : decode M.2.1 pc = .ok (.dup, 1)) (hv : v.category = 1) (k : ga_G l E M R Z (pc + 1) lv (v :: v :: st) h cells slots) : ga_G l E M R Z pc lv (v :: st) h cells slots := by
  intro p e s m args below meth c H locs ls X hc hS hl
  exact lv_dup X.1 X.2.1 hd hv (k p e s m args below meth c H locs ls X hc hS hl)
theorem gr_pop {v : Value} (hd : decode M.2.1 pc = .ok (.pop, 1)) (hv : v.category = 1) (k : ga_G l E M R Z (pc + 1) lv st h cells slots) : ga_G l E M R Z pc lv (v :: st) h cells slots := by
  intro p e s m args below meth c H locs ls X hc hS hl
  exact lv_pop X.1 X.2.1 hd hv (k p e s m args below meth c H locs ls X hc hS hl)
theorem gr_iaddN {a b : Nat} (hd : decode M.2.1 pc = .ok (.iadd, 1)) (k : ga_G l E M R Z (pc + 1) lv (.int (nI (a + b)) :: st) h cells slots) : ga_G l E M R Z pc lv (.int (nI b) :: .int (nI a) :: st) h cells slots := gr_iadd hd (gr_top (congrArg Value.int (nI_add a b)) k)
theorem gr_imulN {a b : Nat} (hd : decode M.2.1 pc = .ok (.imul, 1)) (k : ga_G l E M R Z (pc + 1) lv (.int (nI (a * b)) :: st) h cells slots) : ga_G l E M R Z pc lv (.int (nI b) :: .int (nI a) :: st) h cells slots := gr_imul hd (gr_top (congrArg Value.int (pk_mul a b)) k)
theorem gr_isubN {a b : Nat} (hd : decode M.2.1 pc = .ok (.isub, 1)) (hle : b ≤ a) (k : ga_G l E M R Z (pc + 1) lv (.int (nI (a - b)) :: st) h cells slots) : ga_G l E M R Z pc lv (.int (nI b) :: .int (nI a) :: st) h cells slots := gr_isub hd (gr_top (congrArg Value.int (pk_sub hle)) k)
theorem gr_iremN {a b : Nat} (hd : decode M.2.1 pc = .ok (.irem, 1)) (ha : a < 2 ^ 31) (h0 : 0 < b) (hb : b < 2 ^ 31) (k : ga_G l E M R Z (pc + 1) lv (.int (nI (a % b)) :: st) h cells slots) : ga_G l E M R Z pc lv (.int (nI b) :: .int (nI a) :: st) h cells slots := gr_irem hd (nI_ne0 h0 hb) (gr_top (congrArg Value.int (pk_rem ha h0 hb)) k)
theorem gr_idivN {a b : Nat} (hd : decode M.2.1 pc = .ok (.idiv, 1)) (ha : a < 2 ^ 31) (h0 : 0 < b) (hb : b < 2 ^ 31) (k : ga_G l E M R Z (pc + 1) lv (.int (nI (a / b)) :: st) h cells slots) : ga_G l E M R Z pc lv (.int (nI b) :: .int (nI a) :: st) h cells slots := gr_idiv hd (nI_ne0 h0 hb) (gr_top (congrArg Value.int (pk_div ha h0 hb)) k)
theorem gr_laddN {a b : Nat} (hd : decode M.2.1 pc = .ok (.ladd, 1)) (k : ga_G l E M R Z (pc + 1) lv (.long (lN (a + b)) :: st) h cells slots) : ga_G l E M R Z pc lv (.long (lN b) :: .long (lN a) :: st) h cells slots := gr_ladd hd (gr_top (congrArg Value.long (lN_add a b)) k)
theorem gr_lmulN {a b : Nat} (hd : decode M.2.1 pc = .ok (.lmul, 1)) (k : ga_G l E M R Z (pc + 1) lv (.long (lN (a * b)) :: st) h cells slots) : ga_G l E M R Z pc lv (.long (lN b) :: .long (lN a) :: st) h cells slots := gr_lmul hd (gr_top (congrArg Value.long (lN_mul a b)) k)
theorem gr_lremN {a b : Nat} (hd : decode M.2.1 pc = .ok (.lrem, 1)) (ha : a < 2 ^ 63) (h0 : 0 < b) (hb : b < 2 ^ 63) (k : ga_G l E M R Z (pc + 1) lv (.long (lN (a % b)) :: st) h cells slots) : ga_G l E M R Z pc lv (.long (lN b) :: .long (lN a) :: st) h cells slots := gr_lrem hd (fun e => by
  have e2 : lN b = lN 0 := e
  rw [pk_lEQ hb (by decide)] at e2
  omega) (gr_top (congrArg Value.long (pk_lRem ha h0 hb)) k)
theorem gr_i2lN {a : Nat} (hd : decode M.2.1 pc = .ok (.i2l, 1)) (ha : a < 2 ^ 31) (k : ga_G l E M R Z (pc + 1) lv (.long (lN a) :: st) h cells slots) : ga_G l E M R Z pc lv (.int (nI a) :: st) h cells slots := gr_i2l hd (nI_l ha) k
theorem gr_l2iN {a : Nat} (hd : decode M.2.1 pc = .ok (.l2i, 1)) (k : ga_G l E M R Z (pc + 1) lv (.int (nI a) :: st) h cells slots) : ga_G l E M R Z pc lv (.long (lN a) :: st) h cells slots := gr_l2i hd (lN_i a) k
theorem gr_istore_n {k0 : Fin 4} {x : Int32} (hd : decode M.2.1 pc = .ok (.istore_n k0, 1)) (hi : (k0 : Nat) < M.2.2.1) (hn : ga_nl lv (k0 : Nat) = true) (k : ga_G l E M R Z (pc + 1) (lv.set (k0 : Nat) (some (.int x))) st h cells slots) : ga_G l E M R Z pc lv (.int x :: st) h cells slots := by
  intro p e s m args below meth c H locs ls X hc hS hl
  obtain ⟨ls', e1, hl'⟩ := hl.st1 (v := .int x) hi rfl hn
  intro T hT Xs
  obtain ⟨t, a, b⟩ := k p e s m args below meth c H locs ls' X hc hS hl' T hT Xs
  refine ⟨t, ?_, b⟩
  jvm_step Xs.here [Xs.here.top, X.1, X.2.1, hd, e1]
  first | exact a | exact ⟨rfl, a⟩
theorem gr_istore {k0 : Nat} {x : Int32} (hd : decode M.2.1 pc = .ok (.istore k0, 2)) (hi : k0 < M.2.2.1) (hn : ga_nl lv k0 = true) (k : ga_G l E M R Z (pc + 2) (lv.set k0 (some (.int x))) st h cells slots) : ga_G l E M R Z pc lv (.int x :: st) h cells slots := by
  intro p e s m args below meth c H locs ls X hc hS hl
  obtain ⟨ls', e1, hl'⟩ := hl.st1 (v := .int x) hi rfl hn
  intro T hT Xs
  obtain ⟨t, a, b⟩ := k p e s m args below meth c H locs ls' X hc hS hl' T hT Xs
  refine ⟨t, ?_, b⟩
  jvm_step Xs.here [Xs.here.top, X.1, X.2.1, hd, e1]
  first | exact a | exact ⟨rfl, a⟩
theorem gr_astore_n {k0 : Fin 4} {x : Nat} (hd : decode M.2.1 pc = .ok (.astore_n k0, 1)) (hi : (k0 : Nat) < M.2.2.1) (hn : ga_nl lv (k0 : Nat) = true) (k : ga_G l E M R Z (pc + 1) (lv.set (k0 : Nat) (some (.ref x))) st h cells slots) : ga_G l E M R Z pc lv (.ref x :: st) h cells slots := by
  intro p e s m args below meth c H locs ls X hc hS hl
  obtain ⟨ls', e1, hl'⟩ := hl.st1 (v := .ref x) hi rfl hn
  intro T hT Xs
  obtain ⟨t, a, b⟩ := k p e s m args below meth c H locs ls' X hc hS hl' T hT Xs
  refine ⟨t, ?_, b⟩
  jvm_step Xs.here [Xs.here.top, X.1, X.2.1, hd, e1]
  first | exact a | exact ⟨rfl, a⟩
theorem gr_astore {k0 : Nat} {x : Nat} (hd : decode M.2.1 pc = .ok (.astore k0, 2)) (hi : k0 < M.2.2.1) (hn : ga_nl lv k0 = true) (k : ga_G l E M R Z (pc + 2) (lv.set k0 (some (.ref x))) st h cells slots) : ga_G l E M R Z pc lv (.ref x :: st) h cells slots := by
  intro p e s m args below meth c H locs ls X hc hS hl
  obtain ⟨ls', e1, hl'⟩ := hl.st1 (v := .ref x) hi rfl hn
  intro T hT Xs
  obtain ⟨t, a, b⟩ := k p e s m args below meth c H locs ls' X hc hS hl' T hT Xs
  refine ⟨t, ?_, b⟩
  jvm_step Xs.here [Xs.here.top, X.1, X.2.1, hd, e1]
  first | exact a | exact ⟨rfl, a⟩
theorem gr_lstore_n {k0 : Fin 4} {x : Int64} (hd : decode M.2.1 pc = .ok (.lstore_n k0, 1)) (hi : (k0 : Nat) + 1 < M.2.2.1) (hn : ga_nl lv (k0 : Nat) = true) (k : ga_G l E M R Z (pc + 1) ((lv.set (k0 : Nat) (some (.long x))).set ((k0 : Nat) + 1) none) st h cells slots) : ga_G l E M R Z pc lv (.long x :: st) h cells slots := by
  intro p e s m args below meth c H locs ls X hc hS hl
  obtain ⟨ls', e1, hl'⟩ := hl.st2 (v := .long x) hi rfl hn
  intro T hT Xs
  obtain ⟨t, a, b⟩ := k p e s m args below meth c H locs ls' X hc hS hl' T hT Xs
  refine ⟨t, ?_, b⟩
  jvm_step Xs.here [Xs.here.top, X.1, X.2.1, hd, e1]
  first | exact a | exact ⟨rfl, a⟩
theorem gr_lstore {k0 : Nat} {x : Int64} (hd : decode M.2.1 pc = .ok (.lstore k0, 2)) (hi : k0 + 1 < M.2.2.1) (hn : ga_nl lv k0 = true) (k : ga_G l E M R Z (pc + 2) ((lv.set k0 (some (.long x))).set (k0 + 1) none) st h cells slots) : ga_G l E M R Z pc lv (.long x :: st) h cells slots := by
  intro p e s m args below meth c H locs ls X hc hS hl
  obtain ⟨ls', e1, hl'⟩ := hl.st2 (v := .long x) hi rfl hn
  intro T hT Xs
  obtain ⟨t, a, b⟩ := k p e s m args below meth c H locs ls' X hc hS hl' T hT Xs
  refine ⟨t, ?_, b⟩
  jvm_step Xs.here [Xs.here.top, X.1, X.2.1, hd, e1]
  first | exact a | exact ⟨rfl, a⟩
theorem gr_iinc {i : Nat} {n : Int} {x v : Int32} (hd : decode M.2.1 pc = .ok (.iinc i n, 3)) (hx : lv[i]? = some (some (.int x))) (hv : x + Int32.ofInt n = v) (hi : i < M.2.2.1) (hn : ga_nl lv i = true) (k : ga_G l E M R Z (pc + 3) (lv.set i (some (.int v))) st h cells slots) : ga_G l E M R Z pc lv st h cells slots := by
  intro p e s m args below meth c H locs ls X hc hS hl
  obtain ⟨ls', e1, hl'⟩ := hl.st1 (v := .int v) hi rfl hn
  have h0 := hl.2.2 _ _ hx
  intro T hT Xs
  obtain ⟨t, a, b⟩ := k p e s m args below meth c H locs ls' X hc hS hl' T hT Xs
  refine ⟨t, ?_, b⟩
  subst hv
  jvm_step Xs.here [Xs.here.top, X.1, X.2.1, hd, h0, e1]
  exact a
theorem gr_ifeq {x : Int32} {off : Int} (tgt : Nat) (hd : decode M.2.1 pc = .ok (.ifCond .eq off, 3)) (ht : (pc : Int) + off = (tgt : Int)) (kt : x = 0 → ga_G l E M R Z tgt lv st h cells slots) (kf : ¬ x = 0 → ga_G l E M R Z (pc + 3) lv st h cells slots) : ga_G l E M R Z pc lv (.int x :: st) h cells slots := by
  intro p e s m args below meth c H locs ls X hc hS hl
  exact lv_if_eq X.1 X.2.1 hd ht (fun q => kt q p e s m args below meth c H locs ls X hc hS hl) (fun q => kf q p e s m args below meth c H locs ls X hc hS hl)
theorem gr_icmpeq {x y : Int32} {off : Int} (tgt : Nat) (hd : decode M.2.1 pc = .ok (.if_icmp .eq off, 3)) (ht : (pc : Int) + off = (tgt : Int)) (kt : x = y → ga_G l E M R Z tgt lv st h cells slots) (kf : ¬ x = y → ga_G l E M R Z (pc + 3) lv st h cells slots) : ga_G l E M R Z pc lv (.int y :: .int x :: st) h cells slots := by
  intro p e s m args below meth c H locs ls X hc hS hl
  exact lv_icmp_eq X.1 X.2.1 hd ht (fun q => kt q p e s m args below meth c H locs ls X hc hS hl) (fun q => kf q p e s m args below meth c H locs ls X hc hS hl)
theorem gr_ifne {x : Int32} {off : Int} (tgt : Nat) (hd : decode M.2.1 pc = .ok (.ifCond .ne off, 3)) (ht : (pc : Int) + off = (tgt : Int)) (kt : ¬ x = 0 → ga_G l E M R Z tgt lv st h cells slots) (kf : x = 0 → ga_G l E M R Z (pc + 3) lv st h cells slots) : ga_G l E M R Z pc lv (.int x :: st) h cells slots := by
  intro p e s m args below meth c H locs ls X hc hS hl
  exact lv_if_ne X.1 X.2.1 hd ht (fun q => kt q p e s m args below meth c H locs ls X hc hS hl) (fun q => kf q p e s m args below meth c H locs ls X hc hS hl)
theorem gr_icmpne {x y : Int32} {off : Int} (tgt : Nat) (hd : decode M.2.1 pc = .ok (.if_icmp .ne off, 3)) (ht : (pc : Int) + off = (tgt : Int)) (kt : ¬ x = y → ga_G l E M R Z tgt lv st h cells slots) (kf : x = y → ga_G l E M R Z (pc + 3) lv st h cells slots) : ga_G l E M R Z pc lv (.int y :: .int x :: st) h cells slots := by
  intro p e s m args below meth c H locs ls X hc hS hl
  exact lv_icmp_ne X.1 X.2.1 hd ht (fun q => kt q p e s m args below meth c H locs ls X hc hS hl) (fun q => kf q p e s m args below meth c H locs ls X hc hS hl)
theorem gr_iflt {x : Int32} {off : Int} (tgt : Nat) (hd : decode M.2.1 pc = .ok (.ifCond .lt off, 3)) (ht : (pc : Int) + off = (tgt : Int)) (kt : x < 0 → ga_G l E M R Z tgt lv st h cells slots) (kf : ¬ x < 0 → ga_G l E M R Z (pc + 3) lv st h cells slots) : ga_G l E M R Z pc lv (.int x :: st) h cells slots := by
  intro p e s m args below meth c H locs ls X hc hS hl
  exact lv_if_lt X.1 X.2.1 hd ht (fun q => kt q p e s m args below meth c H locs ls X hc hS hl) (fun q => kf q p e s m args below meth c H locs ls X hc hS hl)
theorem gr_icmplt {x y : Int32} {off : Int} (tgt : Nat) (hd : decode M.2.1 pc = .ok (.if_icmp .lt off, 3)) (ht : (pc : Int) + off = (tgt : Int)) (kt : x < y → ga_G l E M R Z tgt lv st h cells slots) (kf : ¬ x < y → ga_G l E M R Z (pc + 3) lv st h cells slots) : ga_G l E M R Z pc lv (.int y :: .int x :: st) h cells slots := by
  intro p e s m args below meth c H locs ls X hc hS hl
  exact lv_icmp_lt X.1 X.2.1 hd ht (fun q => kt q p e s m args below meth c H locs ls X hc hS hl) (fun q => kf q p e s m args below meth c H locs ls X hc hS hl)
theorem gr_ifge {x : Int32} {off : Int} (tgt : Nat) (hd : decode M.2.1 pc = .ok (.ifCond .ge off, 3)) (ht : (pc : Int) + off = (tgt : Int)) (kt : 0 ≤ x → ga_G l E M R Z tgt lv st h cells slots) (kf : ¬ 0 ≤ x → ga_G l E M R Z (pc + 3) lv st h cells slots) : ga_G l E M R Z pc lv (.int x :: st) h cells slots := by
  intro p e s m args below meth c H locs ls X hc hS hl
  exact lv_if_ge X.1 X.2.1 hd ht (fun q => kt q p e s m args below meth c H locs ls X hc hS hl) (fun q => kf q p e s m args below meth c H locs ls X hc hS hl)
theorem gr_icmpge {x y : Int32} {off : Int} (tgt : Nat) (hd : decode M.2.1 pc = .ok (.if_icmp .ge off, 3)) (ht : (pc : Int) + off = (tgt : Int)) (kt : y ≤ x → ga_G l E M R Z tgt lv st h cells slots) (kf : ¬ y ≤ x → ga_G l E M R Z (pc + 3) lv st h cells slots) : ga_G l E M R Z pc lv (.int y :: .int x :: st) h cells slots := by
  intro p e s m args below meth c H locs ls X hc hS hl
  exact lv_icmp_ge X.1 X.2.1 hd ht (fun q => kt q p e s m args below meth c H locs ls X hc hS hl) (fun q => kf q p e s m args below meth c H locs ls X hc hS hl)
theorem gr_ifgt {x : Int32} {off : Int} (tgt : Nat) (hd : decode M.2.1 pc = .ok (.ifCond .gt off, 3)) (ht : (pc : Int) + off = (tgt : Int)) (kt : 0 < x → ga_G l E M R Z tgt lv st h cells slots) (kf : ¬ 0 < x → ga_G l E M R Z (pc + 3) lv st h cells slots) : ga_G l E M R Z pc lv (.int x :: st) h cells slots := by
  intro p e s m args below meth c H locs ls X hc hS hl
  exact lv_if_gt X.1 X.2.1 hd ht (fun q => kt q p e s m args below meth c H locs ls X hc hS hl) (fun q => kf q p e s m args below meth c H locs ls X hc hS hl)
theorem gr_icmpgt {x y : Int32} {off : Int} (tgt : Nat) (hd : decode M.2.1 pc = .ok (.if_icmp .gt off, 3)) (ht : (pc : Int) + off = (tgt : Int)) (kt : y < x → ga_G l E M R Z tgt lv st h cells slots) (kf : ¬ y < x → ga_G l E M R Z (pc + 3) lv st h cells slots) : ga_G l E M R Z pc lv (.int y :: .int x :: st) h cells slots := by
  intro p e s m args below meth c H locs ls X hc hS hl
  exact lv_icmp_gt X.1 X.2.1 hd ht (fun q => kt q p e s m args below meth c H locs ls X hc hS hl) (fun q => kf q p e s m args below meth c H locs ls X hc hS hl)
theorem gr_ifle {x : Int32} {off : Int} (tgt : Nat) (hd : decode M.2.1 pc = .ok (.ifCond .le off, 3)) (ht : (pc : Int) + off = (tgt : Int)) (kt : x ≤ 0 → ga_G l E M R Z tgt lv st h cells slots) (kf : ¬ x ≤ 0 → ga_G l E M R Z (pc + 3) lv st h cells slots) : ga_G l E M R Z pc lv (.int x :: st) h cells slots := by
  intro p e s m args below meth c H locs ls X hc hS hl
  exact lv_if_le X.1 X.2.1 hd ht (fun q => kt q p e s m args below meth c H locs ls X hc hS hl) (fun q => kf q p e s m args below meth c H locs ls X hc hS hl)
theorem gr_icmple {x y : Int32} {off : Int} (tgt : Nat) (hd : decode M.2.1 pc = .ok (.if_icmp .le off, 3)) (ht : (pc : Int) + off = (tgt : Int)) (kt : x ≤ y → ga_G l E M R Z tgt lv st h cells slots) (kf : ¬ x ≤ y → ga_G l E M R Z (pc + 3) lv st h cells slots) : ga_G l E M R Z pc lv (.int y :: .int x :: st) h cells slots := by
  intro p e s m args below meth c H locs ls X hc hS hl
  exact lv_icmp_le X.1 X.2.1 hd ht (fun q => kt q p e s m args below meth c H locs ls X hc hS hl) (fun q => kf q p e s m args below meth c H locs ls X hc hS hl)
theorem gr_icmpeqN {a b : Nat} {off : Int} (tgt : Nat) (hd : decode M.2.1 pc = .ok (.if_icmp .eq off, 3)) (ht : (pc : Int) + off = (tgt : Int)) (ha : a < 2 ^ 31) (hb : b < 2 ^ 31) (kt : a = b → ga_G l E M R Z tgt lv st h cells slots) (kf : a ≠ b → ga_G l E M R Z (pc + 3) lv st h cells slots) : ga_G l E M R Z pc lv (.int (nI b) :: .int (nI a) :: st) h cells slots :=
  gr_icmpeq tgt hd ht (fun q => kt ((nI_eq ha hb).mp q)) (fun q => kf (fun z => q ((nI_eq ha hb).mpr z)))
theorem gr_icmpneN {a b : Nat} {off : Int} (tgt : Nat) (hd : decode M.2.1 pc = .ok (.if_icmp .ne off, 3)) (ht : (pc : Int) + off = (tgt : Int)) (ha : a < 2 ^ 31) (hb : b < 2 ^ 31) (kt : a ≠ b → ga_G l E M R Z tgt lv st h cells slots) (kf : a = b → ga_G l E M R Z (pc + 3) lv st h cells slots) : ga_G l E M R Z pc lv (.int (nI b) :: .int (nI a) :: st) h cells slots :=
  gr_icmpne tgt hd ht (fun q => kt (fun z => q ((nI_eq ha hb).mpr z))) (fun q => kf ((nI_eq ha hb).mp q))
theorem gr_icmpltN {a b : Nat} {off : Int} (tgt : Nat) (hd : decode M.2.1 pc = .ok (.if_icmp .lt off, 3)) (ht : (pc : Int) + off = (tgt : Int)) (ha : a < 2 ^ 31) (hb : b < 2 ^ 31) (kt : a < b → ga_G l E M R Z tgt lv st h cells slots) (kf : b ≤ a → ga_G l E M R Z (pc + 3) lv st h cells slots) : ga_G l E M R Z pc lv (.int (nI b) :: .int (nI a) :: st) h cells slots :=
  gr_icmplt tgt hd ht (fun q => kt ((nI_ltI ha hb).mp q)) (fun q => kf (Nat.not_lt.mp (fun z => q ((nI_ltI ha hb).mpr z))))
theorem gr_icmpgeN {a b : Nat} {off : Int} (tgt : Nat) (hd : decode M.2.1 pc = .ok (.if_icmp .ge off, 3)) (ht : (pc : Int) + off = (tgt : Int)) (ha : a < 2 ^ 31) (hb : b < 2 ^ 31) (kt : b ≤ a → ga_G l E M R Z tgt lv st h cells slots) (kf : a < b → ga_G l E M R Z (pc + 3) lv st h cells slots) : ga_G l E M R Z pc lv (.int (nI b) :: .int (nI a) :: st) h cells slots :=
  gr_icmpge tgt hd ht (fun q => kt ((nI_leI hb ha).mp q)) (fun q => kf (Nat.not_le.mp (fun z => q ((nI_leI hb ha).mpr z))))
theorem gr_icmpgtN {a b : Nat} {off : Int} (tgt : Nat) (hd : decode M.2.1 pc = .ok (.if_icmp .gt off, 3)) (ht : (pc : Int) + off = (tgt : Int)) (ha : a < 2 ^ 31) (hb : b < 2 ^ 31) (kt : b < a → ga_G l E M R Z tgt lv st h cells slots) (kf : a ≤ b → ga_G l E M R Z (pc + 3) lv st h cells slots) : ga_G l E M R Z pc lv (.int (nI b) :: .int (nI a) :: st) h cells slots :=
  gr_icmpgt tgt hd ht (fun q => kt ((nI_ltI hb ha).mp q)) (fun q => kf (Nat.not_lt.mp (fun z => q ((nI_ltI hb ha).mpr z))))
theorem gr_icmpleN {a b : Nat} {off : Int} (tgt : Nat) (hd : decode M.2.1 pc = .ok (.if_icmp .le off, 3)) (ht : (pc : Int) + off = (tgt : Int)) (ha : a < 2 ^ 31) (hb : b < 2 ^ 31) (kt : a ≤ b → ga_G l E M R Z tgt lv st h cells slots) (kf : b < a → ga_G l E M R Z (pc + 3) lv st h cells slots) : ga_G l E M R Z pc lv (.int (nI b) :: .int (nI a) :: st) h cells slots :=
  gr_icmple tgt hd ht (fun q => kt ((nI_leI ha hb).mp q)) (fun q => kf (Nat.not_le.mp (fun z => q ((nI_leI ha hb).mpr z))))
theorem gr_ifeqN {a : Nat} {off : Int} (tgt : Nat) (hd : decode M.2.1 pc = .ok (.ifCond .eq off, 3)) (ht : (pc : Int) + off = (tgt : Int)) (ha : a < 2 ^ 31) (kt : a = 0 → ga_G l E M R Z tgt lv st h cells slots) (kf : a ≠ 0 → ga_G l E M R Z (pc + 3) lv st h cells slots) : ga_G l E M R Z pc lv (.int (nI a) :: st) h cells slots :=
  gr_ifeq tgt hd ht (fun q => kt ((nI_eq ha (by decide)).mp (q.trans nI_0.symm))) (fun q => kf (fun z => q (by rw [z]; exact nI_0)))
theorem gr_ifneN {a : Nat} {off : Int} (tgt : Nat) (hd : decode M.2.1 pc = .ok (.ifCond .ne off, 3)) (ht : (pc : Int) + off = (tgt : Int)) (ha : a < 2 ^ 31) (kt : a ≠ 0 → ga_G l E M R Z tgt lv st h cells slots) (kf : a = 0 → ga_G l E M R Z (pc + 3) lv st h cells slots) : ga_G l E M R Z pc lv (.int (nI a) :: st) h cells slots :=
  gr_ifne tgt hd ht (fun q => kt (fun z => q (by rw [z]; exact nI_0))) (fun q => kf ((nI_eq ha (by decide)).mp (q.trans nI_0.symm)))
theorem gr_ifleN {a : Nat} {off : Int} (tgt : Nat) (hd : decode M.2.1 pc = .ok (.ifCond .le off, 3)) (ht : (pc : Int) + off = (tgt : Int)) (ha : a < 2 ^ 31) (kt : a = 0 → ga_G l E M R Z tgt lv st h cells slots) (kf : a ≠ 0 → ga_G l E M R Z (pc + 3) lv st h cells slots) : ga_G l E M R Z pc lv (.int (nI a) :: st) h cells slots :=
  gr_ifle tgt hd ht (fun q => kt (by
    by_cases z : a = 0
    · exact z
    · exact absurd q (nI_nle (by omega) ha))) (fun q => kf (fun z => q (by rw [z]; exact nI_le (Nat.le_refl 0) (by decide))))
theorem gr_ifltN {a : Nat} {off : Int} (hd : decode M.2.1 pc = .ok (.ifCond .lt off, 3)) (tgt : Nat) (ht : (pc : Int) + off = (tgt : Int)) (ha : a < 2 ^ 31) (kf : ga_G l E M R Z (pc + 3) lv st h cells slots) : ga_G l E M R Z pc lv (.int (nI a) :: st) h cells slots :=
  gr_iflt tgt hd ht (fun q => absurd q (nI_pos ha)) (fun _ => kf)
theorem gr_goto {off : Int} (tgt : Nat) (hd : decode M.2.1 pc = .ok (.goto off, 3)) (ht : (pc : Int) + off = (tgt : Int)) (k : ga_G l E M R Z tgt lv st h cells slots) : ga_G l E M R Z pc lv st h cells slots := by
  intro p e s m args below meth c H locs ls X hc hS hl
  exact lv_goto X.1 X.2.1 hd ht (k p e s m args below meth c H locs ls X hc hS hl)
abbrev ga_i (E : ga_E) (n : Nat) (f : Nat → Int32) : va_E := .inl (ga_cI E, n, .inl f)
abbrev ga_z (E : ga_E) (n : Nat) (f : Nat → Int32) : va_E := .inl (ga_cZ E, n, .inl f)
abbrev ga_j (E : ga_E) (n : Nat) (f : Nat → Int64) : va_E := .inl (ga_cJ E, n, .inr (.inl f))
abbrev ga_ii (E : ga_E) (n : Nat) (f : Nat → Option Nat) : va_E := .inl (ga_cII E, n, .inr (.inr (.inr (.inr f))))
abbrev ga_rr (E : ga_E) (n : Nat) (f : Nat → Option Nat) : va_E := .inl (ga_cR E, n, .inr (.inr (.inr (.inr f))))
abbrev ga_o (ci : Nat) (fs : List Value) : va_E := .inr (ci, fs)
/-- a class of the world: its number, fields, slots, words *)-/
def ga_cls (ci : Nat) (C : String) (T : u_T) (N : Nat) (ty : Nat → FieldType) : Prop := vwCl[ci]? = some (C, T, N) ∧ (∀ w ∈ u_ws C T N, w ∈ ga_Gl) ∧ (∀ k, k < N → parseFieldDescriptor (T k).2.2.1 = some (ty k)) ∧ (∀ a, a < N → ∀ b, b < N → a ≠ b → (T a).2.1 ≠ (T b).2.1)
theorem gr_getf {index ci a N : Nat} {C : String} {T : u_T} {ty : Nat → FieldType} {fs : List Value} {v : Value} (hd : decode M.2.1 pc = .ok (.getfield index, 3)) (hcl : ga_cls ci C T N ty) (k : Nat) (hk : k < N) (hw : Cond.fieldLink M.1.cls index (T k).1 (T k).2.1 (T k).2.2.1 ∈ ga_Gl) (ha : h a = some (ga_o ci fs)) (hv : fs[k]? = some v) (kk : ga_G l E M R Z (pc + 3) lv (v :: st) h cells slots) : ga_G l E M R Z pc lv (.ref a :: st) h cells slots := by
  intro p e s m args below meth c H locs ls X hc hS hl
  obtain ⟨L, f, hP, hD, hat, -, -⟩ := hc.at
  obtain ⟨q0, hq⟩ := hat a _ ha
  exact va_get X.1 X.2.1 X.2.2.2.2.2.2.2.1 hcl.2.1 X.2.2.2.2.2.2.1 X.2.2.2.2.2.2.2.2.2.1.1 hP q0 hq hcl.1 k hk (X.2.2.2.2.2.2.2.1 _ hw) (fun _ z => z) hv hd (kk p e s m args below meth c H locs ls X hc hS hl)
theorem gr_putf {index ci a N : Nat} {C : String} {T : u_T} {ty : Nat → FieldType} {fs : List Value} {v : Value} (hd : decode M.2.1 pc = .ok (.putfield index, 3)) (hcl : ga_cls ci C T N ty) (k : Nat) (hk : k < N) (hw : Cond.fieldLink M.1.cls index (T k).1 (T k).2.1 (T k).2.2.1 ∈ ga_Gl) (hfin : (T k).2.2.2 = false) (hn : narrow (ty k) v = v) (hfit : fits (ty k) v = true) (hlen : k < fs.length) (ha : h a = some (ga_o ci fs)) (kk : ga_G l E M R Z (pc + 3) lv st (ga_up h a (ga_o ci (fs.set k v))) cells slots) : ga_G l E M R Z pc lv (v :: .ref a :: st) h cells slots := by
  intro p e s m args below meth c H locs ls X hc hS hl
  obtain ⟨L, f, hP, hD, hat, hset, -⟩ := hc.at
  obtain ⟨q0, hq⟩ := hat a _ ha
  exact va_put X.1 X.2.1 X.2.2.2.2.2.2.2.1 hcl.2.1 ty hcl.2.2.1 hcl.2.2.2 X.2.2.2.2.2.2.1 X.2.2.2.2.2.2.2.2.2.1.1 hP hD hS q0 hq hcl.1 k hk (X.2.2.2.2.2.2.2.1 _ hw) (fun _ z => z) hfin (hcl.2.2.1 k hk) hn hfit hlen hd
    (fun H1 locs1 hP1 hD1 hS1 => kk p e s m args below meth c H1 locs1 ls X (hset a _ _ H1 q0 ha hq hP1 hD1) hS1 hl)
theorem gr_putF {index ci a N : Nat} {C : String} {T : u_T} {ty : Nat → FieldType} {fs : List Value} {v : Value} (hd : decode M.2.1 pc = .ok (.putfield index, 3)) (hcl : ga_cls ci C T N ty) (k : Nat) (hk : k < N) (hw : Cond.fieldLink M.1.cls index (T k).1 (T k).2.1 (T k).2.2.1 ∈ ga_Gl) (hfin : (T k).2.2.2 = true) (hin : M.1.name = "<init>") (hown : (T k).1 = M.1.cls) (hn : narrow (ty k) v = v) (hfit : fits (ty k) v = true) (hlen : k < fs.length) (ha : h a = some (ga_o ci fs)) (kk : ga_G l E M R Z (pc + 3) lv st (ga_up h a (ga_o ci (fs.set k v))) cells slots) : ga_G l E M R Z pc lv (v :: .ref a :: st) h cells slots := by
  intro p e s m args below meth c H locs ls X hc hS hl
  obtain ⟨L, f, hP, hD, hat, hset, -⟩ := hc.at
  obtain ⟨q0, hq⟩ := hat a _ ha
  exact va_putF X.1 X.2.1 X.2.2.2.2.2.2.2.1 hcl.2.1 ty hcl.2.2.1 hcl.2.2.2 X.2.2.2.2.2.2.1 X.2.2.2.2.2.2.2.2.2.1.1 hP hD hS q0 hq hcl.1 k hk (X.2.2.2.2.2.2.2.1 _ hw) (fun _ z => z) hfin (X.2.2.2.2.2.1.trans hin) hown (hcl.2.2.1 k hk) hn hfit hlen hd
    (fun H1 locs1 hP1 hD1 hS1 => kk p e s m args below meth c H1 locs1 ls X (hset a _ _ H1 q0 ha hq hP1 hD1) hS1 hl)
theorem gr_iaload {a j n : Nat} {f : Nat → Int32} (hd : decode M.2.1 pc = .ok (.iaload, 1)) (ha : h a = some (ga_i E n f)) (hj : j < n) (hn : n < 2 ^ 31) (k : ga_G l E M R Z (pc + 1) lv (.int (f j) :: st) h cells slots) : ga_G l E M R Z pc lv (.int (nI j) :: .ref a :: st) h cells slots := by
  intro p e s m args below meth c H locs ls X hc hS hl
  obtain ⟨L, f0, hP, hD, hat, -, -⟩ := hc.at
  obtain ⟨q0, hq⟩ := hat a _ ha
  refine va_iald X.1 X.2.1 X.2.2.2.2.2.2.2.2.2.1.1 hP q0 0 hq rfl (vp_in_nI hj hn) hd ?_
  rw [nI_clamp (by omega)]
  exact k p e s m args below meth c H locs ls X hc hS hl
theorem gr_zaload {a j n : Nat} {f : Nat → Int32} (hd : decode M.2.1 pc = .ok (.baload, 1)) (ha : h a = some (ga_z E n f)) (hj : j < n) (hn : n < 2 ^ 31) (k : ga_G l E M R Z (pc + 1) lv (.int (f j) :: st) h cells slots) : ga_G l E M R Z pc lv (.int (nI j) :: .ref a :: st) h cells slots := by
  intro p e s m args below meth c H locs ls X hc hS hl
  obtain ⟨L, f0, hP, hD, hat, -, -⟩ := hc.at
  obtain ⟨q0, hq⟩ := hat a _ ha
  refine va_zald X.1 X.2.1 X.2.2.2.2.2.2.2.2.2.1.1 hP q0 1 hq rfl (vp_in_nI hj hn) hd ?_
  rw [nI_clamp (by omega)]
  exact k p e s m args below meth c H locs ls X hc hS hl
theorem gr_laload {a j n : Nat} {f : Nat → Int64} (hd : decode M.2.1 pc = .ok (.laload, 1)) (ha : h a = some (ga_j E n f)) (hj : j < n) (hn : n < 2 ^ 31) (k : ga_G l E M R Z (pc + 1) lv (.long (f j) :: st) h cells slots) : ga_G l E M R Z pc lv (.int (nI j) :: .ref a :: st) h cells slots := by
  intro p e s m args below meth c H locs ls X hc hS hl
  obtain ⟨L, f0, hP, hD, hat, -, -⟩ := hc.at
  obtain ⟨q0, hq⟩ := hat a _ ha
  refine va_lald X.1 X.2.1 X.2.2.2.2.2.2.2.2.2.1.1 hP q0 2 hq rfl (vp_in_nI hj hn) hd ?_
  rw [nI_clamp (by omega)]
  exact k p e s m args below meth c H locs ls X hc hS hl
theorem gr_aaloadI {a j n b : Nat} {f : Nat → Option Nat} (hd : decode M.2.1 pc = .ok (.aaload, 1)) (ha : h a = some (ga_ii E n f)) (hj : j < n) (hn : n < 2 ^ 31) (hb : f j = some b) (k : ga_G l E M R Z (pc + 1) lv (.ref b :: st) h cells slots) : ga_G l E M R Z pc lv (.int (nI j) :: .ref a :: st) h cells slots := by
  intro p e s m args below meth c H locs ls X hc hS hl
  obtain ⟨L, f0, hP, hD, hat, -, -⟩ := hc.at
  obtain ⟨q0, hq⟩ := hat a _ ha
  have hlt : (nI j).toNatClampNeg < n := by rw [nI_clamp (by omega)]; exact hj
  refine W.aald (v := va_rf (f (nI j).toNatClampNeg)) (ty := .array .int) X.1 X.2.1 (hP q0 _ hq) ((X.2.2.2.2.2.2.2.2.2.1.1.2 3 _ rfl).1 n (fun j => va_rf (f j))) rfl (fun q => by cases q) (by show ¬ (nI j < 0 ∨ (arrV _ _ _).slots.size ≤ _); rw [arrV_size]; exact vp_in_nI hj hn) (by show (arrV _ _ _).slots[_]? = _; rw [arrV_read _ _ hlt]) rfl rfl hd ?_
  rw [nI_clamp (by omega), hb]
  exact k p e s m args below meth c H locs ls X hc hS hl
theorem gr_aaloadR {a j n b : Nat} {f : Nat → Option Nat} (hd : decode M.2.1 pc = .ok (.aaload, 1)) (ha : h a = some (ga_rr E n f)) (hj : j < n) (hn : n < 2 ^ 31) (hb : f j = some b) (k : ga_G l E M R Z (pc + 1) lv (.ref b :: st) h cells slots) : ga_G l E M R Z pc lv (.int (nI j) :: .ref a :: st) h cells slots := by
  intro p e s m args below meth c H locs ls X hc hS hl
  obtain ⟨L, f0, hP, hD, hat, -, -⟩ := hc.at
  obtain ⟨q0, hq⟩ := hat a _ ha
  have hlt : (nI j).toNatClampNeg < n := by rw [nI_clamp (by omega)]; exact hj
  refine W.aald (v := va_rf (f (nI j).toNatClampNeg)) (ty := .object RX6) X.1 X.2.1 (hP q0 _ hq) ((X.2.2.2.2.2.2.2.2.2.1.1.2 4 _ rfl).1 n (fun j => va_rf (f j))) rfl (fun q => by cases q) (by show ¬ (nI j < 0 ∨ (arrV _ _ _).slots.size ≤ _); rw [arrV_size]; exact vp_in_nI hj hn) (by show (arrV _ _ _).slots[_]? = _; rw [arrV_read _ _ hlt]) rfl rfl hd ?_
  rw [nI_clamp (by omega), hb]
  exact k p e s m args below meth c H locs ls X hc hS hl
theorem gr_iastore {a j n : Nat} {f : Nat → Int32} {x : Int32} (hd : decode M.2.1 pc = .ok (.iastore, 1)) (ha : h a = some (ga_i E n f)) (hj : j < n) (hn : n < 2 ^ 31) (k : ga_G l E M R Z (pc + 1) lv st (ga_up h a (ga_i E n (upd f j x))) cells slots) : ga_G l E M R Z pc lv (.int x :: .int (nI j) :: .ref a :: st) h cells slots := by
  intro p e s m args below meth c H locs ls X hc hS hl
  obtain ⟨L, f0, hP, hD, hat, hset, -⟩ := hc.at
  obtain ⟨q0, hq⟩ := hat a _ ha
  refine va_iast X.1 X.2.1 X.2.2.2.2.2.2.2.2.2.1.1 hP hD hS q0 0 hq rfl (vp_in_nI hj hn) hd (fun H1 locs1 hP1 hD1 hS1 => ?_)
  rw [nI_clamp (by omega)] at hP1 hD1
  exact k p e s m args below meth c H1 locs1 ls X (hset a _ _ H1 q0 ha hq hP1 hD1) hS1 hl
theorem gr_zastore {a j n : Nat} {f : Nat → Int32} {x : Int32} (hd : decode M.2.1 pc = .ok (.bastore, 1)) (ha : h a = some (ga_z E n f)) (hj : j < n) (hn : n < 2 ^ 31) (hx : vp_nar .boolean x = x) (k : ga_G l E M R Z (pc + 1) lv st (ga_up h a (ga_z E n (upd f j x))) cells slots) : ga_G l E M R Z pc lv (.int x :: .int (nI j) :: .ref a :: st) h cells slots := by
  intro p e s m args below meth c H locs ls X hc hS hl
  obtain ⟨L, f0, hP, hD, hat, hset, -⟩ := hc.at
  obtain ⟨q0, hq⟩ := hat a _ ha
  refine va_zast X.1 X.2.1 X.2.2.2.2.2.2.2.2.2.1.1 hP hD hS q0 1 hq rfl (vp_in_nI hj hn) hd (fun H1 locs1 hP1 hD1 hS1 => ?_)
  rw [nI_clamp (by omega), hx] at hP1 hD1
  exact k p e s m args below meth c H1 locs1 ls X (hset a _ _ H1 q0 ha hq hP1 hD1) hS1 hl
theorem gr_lastore {a j n : Nat} {f : Nat → Int64} {x : Int64} (hd : decode M.2.1 pc = .ok (.lastore, 1)) (ha : h a = some (ga_j E n f)) (hj : j < n) (hn : n < 2 ^ 31) (k : ga_G l E M R Z (pc + 1) lv st (ga_up h a (ga_j E n (vp_updL f j x))) cells slots) : ga_G l E M R Z pc lv (.long x :: .int (nI j) :: .ref a :: st) h cells slots := by
  intro p e s m args below meth c H locs ls X hc hS hl
  obtain ⟨L, f0, hP, hD, hat, hset, -⟩ := hc.at
  obtain ⟨q0, hq⟩ := hat a _ ha
  refine va_last X.1 X.2.1 X.2.2.2.2.2.2.2.2.2.1.1 hP hD hS q0 2 hq rfl (vp_in_nI hj hn) hd (fun H1 locs1 hP1 hD1 hS1 => ?_)
  rw [nI_clamp (by omega)] at hP1 hD1
  exact k p e s m args below meth c H1 locs1 ls X (hset a _ _ H1 q0 ha hq hP1 hD1) hS1 hl
theorem gr_aastoreR {a b j n : Nat} {f : Nat → Option Nat} {vs : List Value} (hd : decode M.2.1 pc = .ok (.aastore, 1)) (ha : h a = some (ga_rr E n f)) (hb : h b = some (ga_o 6 vs)) (hj : j < n) (hn : n < 2 ^ 31) (k : ga_G l E M R Z (pc + 1) lv st (ga_up h a (ga_rr E n (va_up f j (some b)))) cells slots) : ga_G l E M R Z pc lv (.ref b :: .int (nI j) :: .ref a :: st) h cells slots := by
  intro p e s m args below meth c H locs ls X hc hS hl
  obtain ⟨L, f0, hP, hD, hat, hset, -⟩ := hc.at
  obtain ⟨q0, hq⟩ := hat a _ ha
  obtain ⟨q1, hq1⟩ := hat b _ hb
  refine va_astq (r := (RX6, TX6, 2)) X.1 X.2.1 X.2.2.2.2.2.2.2.2.2.1.1 hP hD hS q0 4 q1 6 hq rfl hq1 rfl (vp_in_nI hj hn) hd (fun H1 locs1 hP1 hD1 hS1 => ?_)
  rw [nI_clamp (by omega)] at hP1 hD1
  exact k p e s m args below meth c H1 locs1 ls X (hset a _ _ H1 q0 ha hq hP1 hD1) hS1 hl
theorem gr_alen_i {a n : Nat} {f : Nat → Int32} (hd : decode M.2.1 pc = .ok (.arraylength, 1)) (ha : h a = some (ga_i E n f)) (k : ga_G l E M R Z (pc + 1) lv (.int (nI n) :: st) h cells slots) : ga_G l E M R Z pc lv (.ref a :: st) h cells slots := by
  intro p e s m args below meth c H locs ls X hc hS hl
  obtain ⟨L, f0, hP, hD, hat, -, -⟩ := hc.at
  obtain ⟨q0, hq⟩ := hat a _ ha
  exact va_alen X.1 X.2.1 X.2.2.2.2.2.2.2.2.2.1.1 hP q0 0 hq rfl rfl hd (k p e s m args below meth c H locs ls X hc hS hl)
theorem gr_alen_z {a n : Nat} {f : Nat → Int32} (hd : decode M.2.1 pc = .ok (.arraylength, 1)) (ha : h a = some (ga_z E n f)) (k : ga_G l E M R Z (pc + 1) lv (.int (nI n) :: st) h cells slots) : ga_G l E M R Z pc lv (.ref a :: st) h cells slots := by
  intro p e s m args below meth c H locs ls X hc hS hl
  obtain ⟨L, f0, hP, hD, hat, -, -⟩ := hc.at
  obtain ⟨q0, hq⟩ := hat a _ ha
  exact va_alen X.1 X.2.1 X.2.2.2.2.2.2.2.2.2.1.1 hP q0 1 hq rfl rfl hd (k p e s m args below meth c H locs ls X hc hS hl)
theorem gr_alen_ii {a n : Nat} {f : Nat → Option Nat} (hd : decode M.2.1 pc = .ok (.arraylength, 1)) (ha : h a = some (ga_ii E n f)) (k : ga_G l E M R Z (pc + 1) lv (.int (nI n) :: st) h cells slots) : ga_G l E M R Z pc lv (.ref a :: st) h cells slots := by
  intro p e s m args below meth c H locs ls X hc hS hl
  obtain ⟨L, f0, hP, hD, hat, -, -⟩ := hc.at
  obtain ⟨q0, hq⟩ := hat a _ ha
  exact va_alen X.1 X.2.1 X.2.2.2.2.2.2.2.2.2.1.1 hP q0 3 hq rfl rfl hd (k p e s m args below meth c H locs ls X hc hS hl)
theorem gr_alen_rr {a n : Nat} {f : Nat → Option Nat} (hd : decode M.2.1 pc = .ok (.arraylength, 1)) (ha : h a = some (ga_rr E n f)) (k : ga_G l E M R Z (pc + 1) lv (.int (nI n) :: st) h cells slots) : ga_G l E M R Z pc lv (.ref a :: st) h cells slots := by
  intro p e s m args below meth c H locs ls X hc hS hl
  obtain ⟨L, f0, hP, hD, hat, -, -⟩ := hc.at
  obtain ⟨q0, hq⟩ := hat a _ ha
  exact va_alen X.1 X.2.1 X.2.2.2.2.2.2.2.2.2.1.1 hP q0 4 hq rfl rfl hd (k p e s m args below meth c H locs ls X hc hS hl)
end GR
