/-! Returns, calls, new cells, copies -/
section GS
variable {l : Launch} {E : ga_E} {M : ga_M} {R : Room} {Z : List Frame → Array Value → State → State → Prop} {pc : Nat} {lv lv' : List (Option Value)} {st : List Value} {h h' : ga_H} {cells slots : Nat}
theorem gr_ireturn {Post : Option Value → ga_H → Prop} {nc ns : Nat} {v : Int32} (hd : decode M.2.1 pc = .ok (.ireturn, 1)) (hret : M.2.2.2.1 = some .int) (h1 : cells ≤ nc) (h2 : slots ≤ ns) (hp : Post (some (.int v)) h) : ga_G l E M R (ga_Z E Post nc ns) pc lv [.int v] h cells slots := by
  intro p e s m args below meth c H locs ls X hc hS hl
  refine W.widen h1 h2 ?_
  exact W.iret X.1 X.2.1 (X.2.2.2.1.trans hret) (fun t ht hW => ⟨⟨_, h, rfl, hp, by rw [ht]; exact hc⟩, hS.F ht⟩) hS.2.2 hd X.2.2.2.2.1
theorem gr_lreturn {Post : Option Value → ga_H → Prop} {nc ns : Nat} {v : Int64} (hd : decode M.2.1 pc = .ok (.lreturn, 1)) (hret : M.2.2.2.1 = some .long) (h1 : cells ≤ nc) (h2 : slots ≤ ns) (hp : Post (some (.long v)) h) : ga_G l E M R (ga_Z E Post nc ns) pc lv [.long v] h cells slots := by
  intro p e s m args below meth c H locs ls X hc hS hl
  refine W.widen h1 h2 ?_
  exact W.lret X.1 X.2.1 (X.2.2.2.1.trans hret) (fun t ht hW => ⟨⟨_, h, rfl, hp, by rw [ht]; exact hc⟩, hS.F ht⟩) hS.2.2 hd X.2.2.2.2.1
theorem gr_zreturn {Post : Option Value → ga_H → Prop} {nc ns : Nat} {v : Int32} (hd : decode M.2.1 pc = .ok (.ireturn, 1)) (hret : M.2.2.2.1 = some .boolean) (hn : narrow .boolean (.int v) = .int v) (h1 : cells ≤ nc) (h2 : slots ≤ ns) (hp : Post (some (.int v)) h) : ga_G l E M R (ga_Z E Post nc ns) pc lv [.int v] h cells slots := by
  intro p e s m args below meth c H locs ls X hc hS hl
  refine W.widen h1 h2 ?_
  exact W.zret X.1 X.2.1 (X.2.2.2.1.trans hret) hn (fun t ht hW => ⟨⟨_, h, rfl, hp, by rw [ht]; exact hc⟩, hS.F ht⟩) hS.2.2 hd X.2.2.2.2.1
theorem gr_return {Post : Option Value → ga_H → Prop} {nc ns : Nat} (hd : decode M.2.1 pc = .ok (.return_, 1)) (hret : M.2.2.2.1 = none) (h1 : cells ≤ nc) (h2 : slots ≤ ns) (hp : Post none h) : ga_G l E M R (ga_Z E Post nc ns) pc lv [] h cells slots := by
  intro p e s m args below meth c H locs ls X hc hS hl
  refine W.widen h1 h2 ?_
  exact W.vret X.1 X.2.1 (X.2.2.2.1.trans hret) (fun t ht hW => ⟨⟨_, h, rfl, hp, by rw [ht]; exact hc⟩, hS.F ht⟩) hS.2.2 hd X.2.2.2.2.1
/-- a callee's words *)-/
theorem ga_good {ws : List Cond} (h0 : ∀ w ∈ ws, w ∈ ga_Gl) : GoodIn ga_Gl ws := fun w hw => ⟨h0 w hw, good_of_word (ga_Gl_good w (h0 w hw))⟩
theorem ga_Wd_in {M' : ga_M} (hcw : Cond.code M'.1 M'.2.1 M'.2.2.1 M'.2.2.2.1 ∈ ga_Gl) : ∀ w ∈ ga_Wd M', w ∈ ga_Gl := fun w hw => by
  rcases List.mem_cons.mp hw with rfl | hw
  · exact hcw
  · exact hw
/-- a method that a call may name: its code's word, its class, its parameters *)-/
def ga_yes (M' : ga_M) (n : Nat) : Prop := Cond.code M'.1 M'.2.1 M'.2.2.1 M'.2.2.2.1 ∈ ga_Gl ∧ Cond.initialized M'.1.cls ∈ ga_Gl ∧ (M'.1.cls ≠ "java/lang/invoke/MethodHandle" ∧ M'.1.cls ≠ "java/lang/invoke/VarHandle" ∧ (parseMethodDescriptor M'.1.desc).map (fun d => d.parameters.length) = some n) ∧ M'.2.2.1 ≤ 45
/-- behind a call *)-/
theorem ga_back {p : Program} {e : Env} {s : State} {m : MethodId} {args : Array Value} {below : List Frame} {meth : Method} {c : Code} {H : Heap} {locs : List Loc} {ls : Array Slot} {st0 rest : List Value} {a : Array Value} {mc ms : Nat} {Post : Option Value → ga_H → Prop}
    (X : ga_Cx E M p s m args meth c) (hS : va_S (ga_A E) s.heap H locs) (hl : ga_L ls M.2.2.1 lv) (hr : va_Run p l e R s m args below meth c H locs cells slots mc ms (F0 m pc ls st0) rest (ga_Q E Post a) (ga_A E))
    (k : ∀ (r : Option Value) (h' : ga_H), Post r h' → ga_G l E M R Z (pc + 3) lv (r.toList ++ rest) h' (cells + mc) (slots + ms)) : W p l e R s m args below meth c H locs cells slots (Z below args s) (F0 m pc ls st0) := by
  intro T hT Xs
  obtain ⟨v, st₀, t, T', L, h0, X', hL, e1, e2, ⟨⟨r, h', hv, hp, hC⟩, hz, hk⟩, stp⟩ := hr T hT Xs
  cases hv
  rw [h0] at hz hk
  obtain ⟨t2, a1, b1⟩ := k _ h' hp p e s m args below meth c T'.heap (locs ++ L) ls X (by rw [e1]; exact hC)
    ⟨Nat.le_trans hS.1 (by rw [e1]; exact hz), fun q h1 h2 => by rw [e1, hk q (Nat.lt_of_lt_of_le h1 hS.1) h2]; exact hS.2.1 q h1 h2, fun q hq => by
      rcases List.mem_append.mp hq with h | h
      · exact hS.2.2 q h
      · exact hL q h⟩ hl T' rfl X'
  exact ⟨t2, stp t2 a1, b1⟩
theorem ga_pre {s : State} {H : Heap} {locs : List Loc} {p : Program} {m : MethodId} {args : Array Value} {meth : Method} {c : Code} (X : ga_Cx E M p s m args meth c) (hc : ga_C E h H) (hS : va_S (ga_A E) s.heap H locs) (As : List Value) : ∀ U : State, U.heap = H → s.WarmedH U.vm → va_Pc As (ga_Pre E h) As.toArray U := by
  intro U hU hW
  obtain ⟨-, -, -, -, -, -, -, -, x9, x10, -, x12⟩ := X
  refine ⟨rfl, ?_, x10.warm hW, ?_, by rw [hU]; exact hc⟩
  · rw [hU]; exact Nat.le_trans x9 hS.1
  · rw [hU]
    exact (x12.kept (fun a h1 h2 => hS.2.1 a h1 h2)).moved hW.alike
theorem gr_callS {M' : ga_M} {d nc ns index n : Nat} {As rest : List Value} {Post : Option Value → ga_H → Prop} (hd : decode M.2.1 pc = .ok (.invokestatic index, 3)) (hM : ga_Ok l E d M' As h nc ns Post) (hy : ga_yes M' n) (hw : Cond.methodLink M.1.cls index M'.1 ∈ ga_Gl ∧ Cond.static M'.1 ∈ ga_Gl) (hn : As.length = n) (hst : st = As.reverse ++ rest) (hW : (rest.map fun v => v.category).sum ≤ 8) (hR : d + 1 ≤ R.frames ∧ 64 * (d + 1) ≤ R.locals) (hcs : cells + nc ≤ R.cells ∧ slots + ns ≤ R.slots)
    (k : ∀ (r : Option Value) (h' : ga_H), Post r h' → ga_G l E M R Z (pc + 3) lv (r.toList ++ rest) h' (cells + nc) (slots + ns)) : ga_G l E M R Z pc lv st h cells slots := by
  intro p e s m args below meth c H locs ls X hc hS hl
  have hcw := va_cwS (rm := ga_Rm d nc ns) (R := R) (index := index) (own := M.1.cls) n X.2.2.2.2.2.2.2.1 (ga_good (ws := va_wsS M.1.cls index M'.1 (ga_Wd M')) (fun w hw' => by
    rcases List.mem_append.mp hw' with h9 | h9
    · simp only [List.mem_cons, List.not_mem_nil, or_false] at h9
      rcases h9 with rfl | rfl | rfl
      · exact hw.1
      · exact hw.2
      · exact hy.2.1
    · exact ga_Wd_in hy.1 w h9)) rfl rfl rfl hy.2.2.1 ⟨hR.1, by have := hy.2.2.2; have := hR.2; show 8 + (M'.2.2.1 + 11) + 64 * d ≤ R.locals; omega⟩
  exact ga_back X hS hl (va_runS (As := As) (rest := rest) ⟨X.1, X.2.1, X.2.2.1, X.2.2.2.2.2.2.1, X.2.2.2.2.2.2.2.1⟩ hM hcw ⟨ga_Pre_blind, ga_pre X hc hS As⟩ rfl hn hl.1 hst (lv_room hW) hd hcs) k
theorem gr_callV {M' : ga_M} {d nc ns index n b ci N : Nat} {T : u_T} {fs As rest : List Value} {Post : Option Value → ga_H → Prop} (hd : decode M.2.1 pc = .ok (.invokevirtual index, 3)) (hM : ga_Ok l E d M' (.ref b :: As) h nc ns Post) (hy : ga_yes M' n) (hw : Cond.methodLink M.1.cls index M'.1 ∈ ga_Gl ∧ Cond.instanceMethod M'.1 ∈ ga_Gl ∧ Cond.selects M'.1.cls M'.1 M'.1 ∈ ga_Gl) (hb : h b = some (ga_o ci fs)) (hcl : vwCl[ci]? = some (M'.1.cls, T, N)) (hn : As.length = n) (hst : st = As.reverse ++ .ref b :: rest) (hW : (rest.map fun v => v.category).sum ≤ 8) (hR : d + 1 ≤ R.frames ∧ 64 * (d + 1) ≤ R.locals) (hcs : cells + nc ≤ R.cells ∧ slots + ns ≤ R.slots)
    (k : ∀ (r : Option Value) (h' : ga_H), Post r h' → ga_G l E M R Z (pc + 3) lv (r.toList ++ rest) h' (cells + nc) (slots + ns)) : ga_G l E M R Z pc lv st h cells slots := by
  intro p e s m args below meth c H locs ls X hc hS hl
  have hcw := cwV (rm := ga_Rm d nc ns) (R := R) (index := index) (own := M.1.cls) (C := M'.1.cls) n X.2.2.2.2.2.2.2.1 (ga_good (ws := wsV M.1.cls index M'.1.cls M'.1 (ga_Wd M')) (fun w hw' => by
    rcases List.mem_append.mp hw' with h9 | h9
    · simp only [List.mem_cons, List.not_mem_nil, or_false] at h9
      rcases h9 with rfl | rfl | rfl | rfl
      · exact hw.1
      · exact hw.2.1
      · exact hw.2.2
      · exact hy.2.1
    · exact ga_Wd_in hy.1 w h9)) rfl rfl rfl ⟨rfl, hy.2.2.1⟩ ⟨hR.1, by have := hy.2.2.2; have := hR.2; show 8 + (M'.2.2.1 + 11) + 64 * d ≤ R.locals; omega⟩
  obtain ⟨L, f0, hP, hD, hat, -, -⟩ := hc.at
  obtain ⟨q0, hq⟩ := hat b _ hb
  exact ga_back X hS hl (va_runV (As := As) (rest := rest) ⟨X.1, X.2.1, X.2.2.1, X.2.2.2.2.2.2.1, X.2.2.2.2.2.2.2.1⟩ hM hcw ⟨ga_Pre_blind, va_recv X.2.2.2.2.2.2.2.2.2.1.1 hP hcl hq, ga_pre X hc hS (.ref b :: As)⟩ rfl hn hl.1 hst (lv_room hW) hd hcs) k
theorem gr_callI {M' : ga_M} {d nc ns index n b : Nat} {As rest : List Value} {Post : Option Value → ga_H → Prop} (hd : decode M.2.1 pc = .ok (.invokespecial index, 3)) (hM : ga_Ok l E d M' (.ref b :: As) h nc ns Post) (hy : ga_yes M' n) (hr0 : M'.2.2.2.1 = none) (hi : M'.1.name = "<init>") (hw : Cond.methodLink M.1.cls index M'.1 ∈ ga_Gl ∧ Cond.instanceMethod M'.1 ∈ ga_Gl) (hn : As.length = n) (hst : st = As.reverse ++ .ref b :: rest) (hW : (rest.map fun v => v.category).sum ≤ 8) (hR : d + 1 ≤ R.frames ∧ 64 * (d + 1) ≤ R.locals) (hcs : cells + nc ≤ R.cells ∧ slots + ns ≤ R.slots)
    (k : ∀ (r : Option Value) (h' : ga_H), Post r h' → ga_G l E M R Z (pc + 3) lv (r.toList ++ rest) h' (cells + nc) (slots + ns)) : ga_G l E M R Z pc lv st h cells slots := by
  intro p e s m args below meth c H locs ls X hc hS hl
  have hcw := cwI (rm := ga_Rm d nc ns) (R := R) (index := index) (own := M.1.cls) n X.2.2.2.2.2.2.2.1 (ga_good (ga_Wd_in hy.1)) (by unfold ga_Wd; rw [hr0]) rfl rfl (X.2.2.2.2.2.2.2.1 _ hy.2.1) (X.2.2.2.2.2.2.2.1 _ hw.1) (X.2.2.2.2.2.2.2.1 _ hw.2) hi hy.2.2.1 ⟨hR.1, by have := hy.2.2.2; have := hR.2; show 8 + (M'.2.2.1 + 11) + 64 * d ≤ R.locals; omega⟩
  exact ga_back X hS hl (va_runI (As := As) (rest := rest) ⟨X.1, X.2.1, X.2.2.1, X.2.2.2.2.2.2.1, X.2.2.2.2.2.2.2.1⟩ hM hcw ⟨ga_Pre_blind, ga_pre X hc hS (.ref b :: As)⟩ rfl hn hl.1 hst (lv_room hW) hd hcs) k
theorem gr_callIN {M' : ga_M} {d nc ns index n b : Nat} {As rest : List Value} {Post : Option Value → ga_H → Prop} (hd : decode M.2.1 pc = .ok (.invokespecial index, 3)) (hM : ga_Ok l E d M' (.ref b :: As) h nc ns Post) (hy : ga_yes M' n) (hr0 : M'.2.2.2.1 = none) (hi : M'.1.name = "<init>") (hw : (M.1.cls, index, M'.1) ∈ ga_Nst ∧ Cond.instanceMethod M'.1 ∈ ga_Gl) (hn : As.length = n) (hst : st = As.reverse ++ .ref b :: rest) (hW : (rest.map fun v => v.category).sum ≤ 8) (hR : d + 1 ≤ R.frames ∧ 64 * (d + 1) ≤ R.locals) (hcs : cells + nc ≤ R.cells ∧ slots + ns ≤ R.slots)
    (k : ∀ (r : Option Value) (h' : ga_H), Post r h' → ga_G l E M R Z (pc + 3) lv (r.toList ++ rest) h' (cells + nc) (slots + ns)) : ga_G l E M R Z pc lv st h cells slots := by
  intro p e s m args below meth c H locs ls X hc hS hl
  have hcw := va_cnB (rm := ga_Rm d nc ns) (R := R) (index := index) (own := M.1.cls) (host := "RecurrenceAnswers") n X.2.2.2.2.2.2.2.1 (ga_good (ga_Wd_in hy.1)) (by unfold ga_Wd; rw [hr0]) rfl rfl (X.2.2.2.2.2.2.2.2.2.1.2.1 _ hw.1) (X.2.2.2.2.2.2.2.1 _ hy.2.1) hy.2.2.1 ⟨hR.1, by have := hy.2.2.2; have := hR.2; show 8 + (M'.2.2.1 + 11) + 64 * d ≤ R.locals; omega⟩
  exact ga_back X hS hl (va_runIN (As := As) (rest := rest) ⟨X.1, X.2.1, X.2.2.1, X.2.2.2.2.2.2.1, X.2.2.2.2.2.2.2.1⟩ hM ⟨hcw, hi, X.2.2.2.2.2.2.2.1 _ hw.2⟩ ⟨ga_Pre_blind, ga_pre X hc hS (.ref b :: As)⟩ rfl hn hl.1 hst (lv_room hW) hd hcs) k
theorem gr_objInit {index b : Nat} (hd : decode M.2.1 pc = .ok (.invokespecial index, 3)) (hw : Cond.methodLink M.1.cls index Lib.objectInit ∈ ga_Gl) (hR : 1 ≤ R.frames ∧ 64 ≤ R.locals) (hW : (st.map fun v => v.category).sum ≤ 8) (k : ga_G l E M R Z (pc + 3) lv st h cells slots) : ga_G l E M R Z pc lv (.ref b :: st) h cells slots := by
  intro p e s m args below meth c H locs ls X hc hS hl
  refine W.objInit (g := F0 m pc ls (.ref b :: st)) (rest := st) X.1 X.2.1 X.2.2.2.2.2.2.1 (X.2.2.2.2.2.2.2.1 _ hw) (X.2.2.2.2.2.2.2.1 _ ga_oi.1) (X.2.2.2.2.2.2.2.1 _ ga_oi.2) rfl (by rw [X.2.2.1]; exact hl.1) rfl hd hR.1 ?_ (k p e s m args below meth c H locs ls X hc hS hl)
  have := lv_room (m := m) (pc := pc) (ls := ls) (rest := st) (st := st) hW
  show 2 * (F0 m pc ls st).monitorRoom + _ + 12 ≤ _
  omega
theorem gr_newO {index ci N : Nat} {C : String} {T : u_T} {ty : Nat → FieldType} {fs : List Value} (hd : decode M.2.1 pc = .ok (.new index, 3)) (hcl : ga_cls ci C T N ty) (hw : Cond.classLink M.1.cls index C ∈ ga_Gl ∧ Cond.instantiable C N ∈ ga_Gl ∧ Cond.initialized C ∈ ga_Gl) (hfs : ∀ j, j < N → defaultValue (ty j) = vp_V fs j) (hcs : cells + 1 ≤ R.cells ∧ slots + N ≤ R.slots)
    (k : ∀ q : Nat, h q = none → ga_G l E M R Z (pc + 3) lv (.ref q :: st) (ga_up h q (ga_o ci fs)) (cells + 1) (slots + N)) : ga_G l E M R Z pc lv st h cells slots := by
  intro p e s m args below meth c H locs ls X hc hS hl
  obtain ⟨L, f0, hP, hD, hat, -, hnew⟩ := hc.at
  exact va_new X.1 X.2.1 X.2.2.2.2.2.2.2.1 hcl.2.1 ty hcl.2.2.1 X.2.2.2.2.2.2.1 (X.2.2.2.2.2.2.2.1 _ hw.1) (X.2.2.2.2.2.2.2.1 _ hw.2.1) (X.2.2.2.2.2.2.2.1 _ hw.2.2) X.2.2.2.2.2.2.2.2.2.1.1 hP hD hS (fun q hq => Nat.le_trans X.2.2.2.2.2.2.2.2.1 hq) hcl.1 hfs hcs.1 hcs.2 hd
    (fun q H1 hP1 hD1 hS1 => k q (hnew q _ H1 hP1 hD1).2 p e s m args below meth c H1 locs ls X (hnew q _ H1 hP1 hD1).1 hS1 hl)
theorem gr_newI {n : Nat} (hd : decode M.2.1 pc = .ok (.newarray .int, 2)) (hw : Cond.arrayClass .int ∈ ga_Gl) (hn : n < 10000) (hcs : cells + 1 ≤ R.cells ∧ slots + n ≤ R.slots)
    (k : ∀ q : Nat, h q = none → ga_G l E M R Z (pc + 2) lv (.ref q :: st) (ga_up h q (ga_i E n (fun _ => 0))) (cells + 1) (slots + n)) : ga_G l E M R Z pc lv (.int (nI n) :: st) h cells slots := by
  intro p e s m args below meth c H locs ls X hc hS hl
  obtain ⟨L, f0, hP, hD, hat, -, hnew⟩ := hc.at
  refine va_newa (atype := .int) (ty := .int) (N' := n) (a0 := (n, .inl (fun _ => 0))) X.1 X.2.1 (X.2.2.2.2.2.2.2.1 _ hw) rfl X.2.2.2.2.2.2.2.2.2.1.1 hP hD hS (fun q hq => Nat.le_trans X.2.2.2.2.2.2.2.2.1 hq) (fun cA => rfl) (nI_pos (by omega)) (nI_clamp (by omega)) (Nat.le_trans (Nat.mul_le_mul (Nat.le_of_lt hn) (by decide : componentBytes .int ≤ 8)) (by decide)) hcs.1 hcs.2 hd (fun q cA H1 hK1 hP1 hD1 hS1 => ?_)
  have e1 := (hK1.2 5 (cA, .int) rfl).2
  have e2 := (X.2.2.2.2.2.2.2.2.2.1.1.2 0 _ rfl).2
  have e3 : cA = ga_cI E := Option.some.inj (e1.symm.trans e2)
  subst e3
  exact k q (hnew q _ H1 hP1 hD1).2 p e s m args below meth c H1 locs ls X (hnew q _ H1 hP1 hD1).1 hS1 hl
theorem gr_newZ {n : Nat} (hd : decode M.2.1 pc = .ok (.newarray .boolean, 2)) (hw : Cond.arrayClass .boolean ∈ ga_Gl) (hn : n < 10000) (hcs : cells + 1 ≤ R.cells ∧ slots + n ≤ R.slots)
    (k : ∀ q : Nat, h q = none → ga_G l E M R Z (pc + 2) lv (.ref q :: st) (ga_up h q (ga_z E n (fun _ => 0))) (cells + 1) (slots + n)) : ga_G l E M R Z pc lv (.int (nI n) :: st) h cells slots := by
  intro p e s m args below meth c H locs ls X hc hS hl
  obtain ⟨L, f0, hP, hD, hat, -, hnew⟩ := hc.at
  refine va_newa (atype := .boolean) (ty := .boolean) (N' := n) (a0 := (n, .inl (fun _ => 0))) X.1 X.2.1 (X.2.2.2.2.2.2.2.1 _ hw) rfl X.2.2.2.2.2.2.2.2.2.1.1 hP hD hS (fun q hq => Nat.le_trans X.2.2.2.2.2.2.2.2.1 hq) (fun cA => rfl) (nI_pos (by omega)) (nI_clamp (by omega)) (Nat.le_trans (Nat.mul_le_mul (Nat.le_of_lt hn) (by decide : componentBytes .boolean ≤ 8)) (by decide)) hcs.1 hcs.2 hd (fun q cA H1 hK1 hP1 hD1 hS1 => ?_)
  have e1 := (hK1.2 5 (cA, .boolean) rfl).2
  have e2 := (X.2.2.2.2.2.2.2.2.2.1.1.2 1 _ rfl).2
  have e3 : cA = ga_cZ E := Option.some.inj (e1.symm.trans e2)
  subst e3
  exact k q (hnew q _ H1 hP1 hD1).2 p e s m args below meth c H1 locs ls X (hnew q _ H1 hP1 hD1).1 hS1 hl
theorem gr_newJ {n : Nat} (hd : decode M.2.1 pc = .ok (.newarray .long, 2)) (hw : Cond.arrayClass .long ∈ ga_Gl) (hn : n < 10000) (hcs : cells + 1 ≤ R.cells ∧ slots + n ≤ R.slots)
    (k : ∀ q : Nat, h q = none → ga_G l E M R Z (pc + 2) lv (.ref q :: st) (ga_up h q (ga_j E n (fun _ => 0))) (cells + 1) (slots + n)) : ga_G l E M R Z pc lv (.int (nI n) :: st) h cells slots := by
  intro p e s m args below meth c H locs ls X hc hS hl
  obtain ⟨L, f0, hP, hD, hat, -, hnew⟩ := hc.at
  refine va_newa (atype := .long) (ty := .long) (N' := n) (a0 := (n, .inr (.inl (fun _ => 0)))) X.1 X.2.1 (X.2.2.2.2.2.2.2.1 _ hw) rfl X.2.2.2.2.2.2.2.2.2.1.1 hP hD hS (fun q hq => Nat.le_trans X.2.2.2.2.2.2.2.2.1 hq) (fun cA => rfl) (nI_pos (by omega)) (nI_clamp (by omega)) (Nat.le_trans (Nat.mul_le_mul (Nat.le_of_lt hn) (by decide : componentBytes .long ≤ 8)) (by decide)) hcs.1 hcs.2 hd (fun q cA H1 hK1 hP1 hD1 hS1 => ?_)
  have e1 := (hK1.2 5 (cA, .long) rfl).2
  have e2 := (X.2.2.2.2.2.2.2.2.2.1.1.2 2 _ rfl).2
  have e3 : cA = ga_cJ E := Option.some.inj (e1.symm.trans e2)
  subst e3
  exact k q (hnew q _ H1 hP1 hD1).2 p e s m args below meth c H1 locs ls X (hnew q _ H1 hP1 hD1).1 hS1 hl
theorem gr_newR {index n : Nat} (hd : decode M.2.1 pc = .ok (.anewarray index, 3)) (hw : Cond.classLink M.1.cls index RX6 ∈ ga_Gl) (hn : n < 10000) (hcs : cells + 1 ≤ R.cells ∧ slots + n ≤ R.slots)
    (k : ∀ q : Nat, h q = none → ga_G l E M R Z (pc + 3) lv (.ref q :: st) (ga_up h q (ga_rr E n (fun _ => none))) (cells + 1) (slots + n)) : ga_G l E M R Z pc lv (.int (nI n) :: st) h cells slots := by
  intro p e s m args below meth c H locs ls X hc hS hl
  obtain ⟨L, f0, hP, hD, hat, -, hnew⟩ := hc.at
  refine va_newq (C := RX6) (N' := n) X.1 X.2.1 X.2.2.2.2.2.2.1 (X.2.2.2.2.2.2.2.1 _ hw) X.2.2.2.2.2.2.2.2.2.1.2.2.1 X.2.2.2.2.2.2.2.2.2.1.1 hP hD hS (fun q hq => Nat.le_trans X.2.2.2.2.2.2.2.2.1 hq) (nI_pos (by omega)) (nI_clamp (by omega)) (by omega) hcs.1 hcs.2 hd (fun q cA H1 hK1 hP1 hD1 hS1 => ?_)
  obtain ⟨-, -, -, -, -, e1⟩ := (hK1.2 5 (cA, .object RX6) rfl).2
  obtain ⟨-, -, -, -, -, e2⟩ := (X.2.2.2.2.2.2.2.2.2.1.1.2 4 _ rfl).2
  have e3 : cA = ga_cR E := Option.some.inj (e1.symm.trans e2)
  subst e3
  exact k q (hnew q _ H1 hP1 hD1).2 p e s m args below meth c H1 locs ls X (hnew q _ H1 hP1 hD1).1 hS1 hl
theorem gr_copy {index a0 a n0 n1 n : Nat} {f g0 : Nat → Int32} (hd : decode M.2.1 pc = .ok (.invokestatic index, 3)) (hw : Cond.methodLink M.1.cls index arraycopyName ∈ ga_Gl) (ha0 : h a0 = some (ga_i E n0 f)) (ha : h a = some (ga_i E n1 g0)) (h0 : n ≤ n0) (h1 : n ≤ n1) (hn : n0 < 2 ^ 31) (hn1 : n1 < 2 ^ 31) (hR : 1 ≤ R.frames ∧ 64 ≤ R.locals) (hW : (st.map fun v => v.category).sum ≤ 8)
    (k : ga_G l E M R Z (pc + 3) lv st (ga_up h a (ga_i E n1 (va_cpy f g0 0 0 n))) cells slots) : ga_G l E M R Z pc lv (.int (nI n) :: .int (nI 0) :: .ref a :: .int (nI 0) :: .ref a0 :: st) h cells slots := by
  intro p e s m args below meth c H locs ls X hc hS hl
  obtain ⟨L, f0, hP, hD, hat, hset, -⟩ := hc.at
  obtain ⟨q0, hq0⟩ := hat a0 _ ha0
  obtain ⟨q1, hq1⟩ := hat a _ ha
  have c0 : (nI 0).toNatClampNeg = 0 := nI_clamp (by decide)
  have cn : (nI n).toNatClampNeg = n := nI_clamp (by omega)
  refine va_copyi (rest := st) X.1 X.2.1 (by rw [X.2.2.1]; exact hl.1.symm) X.2.2.2.2.2.2.1 (X.2.2.2.2.2.2.2.1 _ hw) (X.2.2.2.2.2.2.2.1 _ ga_cp.1) (X.2.2.2.2.2.2.2.1 _ ga_cp.2.1) (X.2.2.2.2.2.2.2.1 _ ga_cp.2.2) X.2.2.2.2.2.2.2.2.2.1.1 hP hD hS q0 q1 0 0 hq0 hq1 rfl rfl rfl (nI_pos (by decide)) (nI_pos (by decide)) (nI_pos (by omega)) (by rw [c0, cn]; omega) (by rw [c0, cn]; omega) (fun _ _ => rfl) hR.1 ?_ hd (fun H1 locs1 hP1 hD1 hS1 => ?_)
  · have : nativeFrameWords "java/lang/System" "arraycopy" 5 + 11 ≤ 56 := by decide
    omega
  · rw [c0, cn] at hP1 hD1
    exact k p e s m args below meth c H1 locs1 ls X (hset a _ _ H1 q1 ha hq1 hP1 hD1) hS1 hl
end GS
