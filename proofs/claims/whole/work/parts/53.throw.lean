/-! Methods that may throw: their contract, the judgement of a frame with something thrown over it, its rules -/
def ga_XC (E : ga_E) (PX : String → ga_H → Prop) : String → State → State → Prop := fun X st t => (∃ h', PX X h' ∧ ga_C E h' t.heap) ∧ va_F (ga_A E) st t
def ga_OkX (l : Launch) (E : ga_E) (d : Nat) (M : ga_M) (As : List Value) (h : ga_H) (nc ns : Nat) (Post : Option Value → ga_H → Prop) (PX : String → ga_H → Prop) : Prop := vx_Met l M.1 (ga_Wd M) (ga_Rm d nc ns) (va_Pc As (ga_Pre E h)) (ga_Q E Post) (ga_XC E PX) nc ns (ga_A E)
def ga_ZX (E : ga_E) (Post : Option Value → ga_H → Prop) (PX : String → ga_H → Prop) (nc ns : Nat) : List Frame → Array Value → State → State → Prop := fun below args s => vx_MQ below (ga_Q E Post) (ga_XC E PX) args s nc ns (ga_A E)
theorem ga_OkX.of {l : Launch} {E : ga_E} {d : Nat} {M : ga_M} {As : List Value} {h : ga_H} {nc ns : Nat} {Post : Option Value → ga_H → Prop} {PX : String → ga_H → Prop} (k : Nat) (lv : List (Option Value)) (hy : plainName M.1.cls = true) (hx : M.2.2.2.2 = []) (ha : (lg_sl As).length ≤ M.2.2.1) (hlv : ga_args As ++ List.replicate k none = lv)
    (g : ga_G l E M (ga_Rm d nc ns) (ga_ZX E Post PX nc ns) 0 lv [] h 0 0) : ga_OkX l E d M As h nc ns Post PX := by
  refine vx_ofW (cc := M.2.1) (maxL := M.2.2.1) (ret := M.2.2.2.1) hy rfl ?_
  intro p e s m args below meth c s₁ B hml htab hv
  obtain ⟨rfl, hv⟩ := hv
  have hts := atoms_spec (ws := ga_Wd M) B.pre
  rw [lg_entry_eq]
  subst hlv
  refine g p e s m _ below meth c s.heap [] _ ⟨B.exec, B.bytes, hml, B.returns, B.notSynchronized, (name_of_methodNamed B.named B.method).1, findClass_of_methodNamed B.named, fun w hw => hts w (List.mem_cons_of_mem _ hw), hv.1, hv.2.1, ?_, hv.2.2.1⟩ hv.2.2.2 va_S.rf (ga_L.entry As ha)
  rw [hx]
  cases e9 : c.exceptionTable.toList with
  | nil => rfl
  | cons a b => exact absurd (htab a (by rw [e9]; exact List.mem_cons_self)) id
/-- more cells at the end of the heap -/
theorem ga_C.grow {E : ga_E} {h : ga_H} {H H1 : Heap} (hc : ga_C E h H) (hq : ∀ q : Nat, q < H.size → H1[q]? = H[q]?) : ga_C E h H1 := by
  obtain ⟨L, f, h1, h2, h3⟩ := hc
  exact ⟨L, f, h1, h2.kept (fun k q hk => hq q.1 (vx_lt h2 hk)), h3⟩
def ga_GT (l : Launch) (E : ga_E) (M : ga_M) (R : Room) (Z : List Frame → Array Value → State → State → Prop) (pc : Nat) (lv : List (Option Value)) (X : String) (h : ga_H) (cells slots : Nat) : Prop :=
  ∀ (p : Program) (e : Env) (s : State) (m : MethodId) (args : Array Value) (below : List Frame) (meth : Method) (c : Code) (H : Heap) (locs : List Loc) (ls : Array Slot) (rest : List Value) (q : Addr) (ce : Cell), ga_Cx E M p s m args meth c → ga_C E h H → va_S (ga_A E) s.heap H locs → ga_L ls M.2.2.1 lv → H[q]? = some ce → ce.vm = .none → s.vm.findClass X = some ce.cls →
    vx_W p l e R s m args below meth c H locs cells slots (Z below args s) (F0 m pc ls rest) q
section GX
variable {l : Launch} {E : ga_E} {M : ga_M} {R : Room} {Z : List Frame → Array Value → State → State → Prop} {pc : Nat} {lv lv' : List (Option Value)} {st : List Value} {h h' : ga_H} {cells slots : Nat} {Post : Option Value → ga_H → Prop} {PX : String → ga_H → Prop} {nc ns : Nat}
/-- a return is a return -/
theorem gr_X (k : ga_G l E M R (ga_Z E Post nc ns) pc lv st h cells slots) : ga_G l E M R (ga_ZX E Post PX nc ns) pc lv st h cells slots := fun p e s m args below meth c H locs ls X hc hS hl => vx_ret (k p e s m args below meth c H locs ls X hc hS hl)
/-- no row of this method's own: it leaves -/
theorem gt_out {X : String} (hx : M.2.2.2.2 = []) (hp : PX X h) (h1 : cells ≤ nc) (h2 : slots ≤ ns) : ga_GT l E M R (ga_ZX E Post PX nc ns) pc lv X h cells slots := by
  intro p e s m args below meth c H locs ls rest q ce C hc hS hl hcell hv hcl
  exact vx_out (fun x hx2 => by rw [C.2.2.2.2.2.2.2.2.2.2.1, hx] at hx2; cases hx2) C.2.2.2.2.1 hcell hv hcl (fun t ht _ => ⟨⟨h, hp, by rw [ht]; exact hc⟩, hS.F ht⟩) hS.2.2 h1 h2
/-- caught by a row of this method's table -/
theorem gt_catch {X name : String} (pre : List ExceptionTableEntry) (x : ExceptionTableEntry) (suf : List ExceptionTableEntry) (hsplit : M.2.2.2.2 = pre ++ x :: suf) (hcov : covers x pc = true) (h0 : x.catchType ≠ 0)
    (hpass : ∀ z ∈ pre, z.catchType ≠ 0 ∧ ∃ nm : String, Cond.classLink M.1.cls z.catchType nm ∈ ga_Gl ∧ (X, nm) ∈ ga_pas) (hlink : Cond.classLink M.1.cls x.catchType name ∈ ga_Gl) (hcast : X = name ∧ X ∈ ga_exc) (k : ∀ q : Nat, ga_G l E M R Z x.handlerPc lv [.ref q] h cells slots) : ga_GT l E M R Z pc lv X h cells slots := by
  intro p e s m args below meth c H locs ls rest q ce C hc hS hl hcell hv hcl
  obtain ⟨rfl, hexc⟩ := hcast
  have hstr := C.2.2.2.2.2.2.2.2.2.1.2.2.2.2
  refine vx_catch C.2.2.2.2.2.2.1 pre x suf (C.2.2.2.2.2.2.2.2.2.2.1.trans hsplit) (fun z hz => ?_) hcov h0 (C.2.2.2.2.2.2.2.1 _ hlink) (va_Nw.use rfl (hstr.2.1 X hexc)) hcell hv hcl (k q p e s m args below meth c H locs ls C hc hS hl)
  obtain ⟨a, nm, b, d⟩ := hpass z hz
  exact Or.inr ⟨a, nm, C.2.2.2.2.2.2.2.1 _ b, hstr.2.2.1 _ d⟩
/-- behind a call that returns or throws -/
theorem ga_backX {p : Program} {e : Env} {s : State} {m : MethodId} {args : Array Value} {below : List Frame} {meth : Method} {c : Code} {H : Heap} {locs : List Loc} {ls : Array Slot} {st0 rest : List Value} {a : Array Value} {mc ms : Nat} {Post' : Option Value → ga_H → Prop} {PX' : String → ga_H → Prop}
    (X : ga_Cx E M p s m args meth c) (hS : va_S (ga_A E) s.heap H locs) (hl : ga_L ls M.2.2.1 lv) (hr : vx_Run p l e R s m args below meth c H locs cells slots mc ms (F0 m pc ls st0) rest (ga_Q E Post' a) (ga_XC E PX') (ga_A E))
    (kx : ∀ (Y : String) (h' : ga_H), PX' Y h' → ga_GT l E M R Z pc lv Y h' (cells + mc) (slots + ms))
    (k : ∀ (r : Option Value) (h' : ga_H), Post' r h' → ga_G l E M R Z (pc + 3) lv (r.toList ++ rest) h' (cells + mc) (slots + ms)) : W p l e R s m args below meth c H locs cells slots (Z below args s) (F0 m pc ls st0) := by
  intro T hT Xs
  rcases hr T hT Xs with ⟨v, st₀, t, T', L, h0, X', hL, e1, e2, ⟨⟨r, h', hv, hp, hC⟩, hz, hk⟩, stp⟩ | ⟨q, st₀, t, T', L, Y, ce, h0, X', hL, e1, e2, ⟨⟨h', hp, hC⟩, hz, hk⟩, hce, hcv, hcl, stp⟩
  · cases hv
    rw [h0] at hz hk
    obtain ⟨t2, a1, b1⟩ := k _ h' hp p e s m args below meth c T'.heap (locs ++ L) ls X (by rw [e1]; exact hC)
      ⟨Nat.le_trans hS.1 (by rw [e1]; exact hz), fun q h1 h2 => by rw [e1, hk q (Nat.lt_of_lt_of_le h1 hS.1) h2]; exact hS.2.1 q h1 h2, fun q hq => by
        rcases List.mem_append.mp hq with h | h
        · exact hS.2.2 q h
        · exact hL q h⟩ hl T' rfl X'
    exact ⟨t2, stp t2 a1, b1⟩
  · rw [h0] at hz hk
    obtain ⟨t2, a1, b1⟩ := kx Y h' hp p e s m args below meth c T'.heap (locs ++ L) ls rest q ce X (by rw [e1]; exact hC)
      ⟨Nat.le_trans hS.1 (by rw [e1]; exact hz), fun q h1 h2 => by rw [e1, hk q (Nat.lt_of_lt_of_le h1 hS.1) h2]; exact hS.2.1 q h1 h2, fun q hq => by
        rcases List.mem_append.mp hq with h | h
        · exact hS.2.2 q h
        · exact hL q h⟩ hl (by rw [e1]; exact hce) hcv hcl T' rfl X'
    exact ⟨t2, stp.trans a1, b1⟩
theorem gr_callSX {M' : ga_M} {d nc ns index n : Nat} {As rest : List Value} {Post : Option Value → ga_H → Prop} {PX' : String → ga_H → Prop} (hd : decode M.2.1 pc = .ok (.invokestatic index, 3)) (hM : ga_OkX l E d M' As h nc ns Post PX') (hy : ga_yes M' n) (hw : Cond.methodLink M.1.cls index M'.1 ∈ ga_Gl ∧ Cond.static M'.1 ∈ ga_Gl) (hn : As.length = n) (hst : st = As.reverse ++ rest) (hW : (rest.map fun v => v.category).sum ≤ 8) (hR : d + 1 ≤ R.frames ∧ 64 * (d + 1) ≤ R.locals) (hcs : cells + nc ≤ R.cells ∧ slots + ns ≤ R.slots)
    (kx : ∀ (Y : String) (h' : ga_H), PX' Y h' → ga_GT l E M R Z pc lv Y h' (cells + nc) (slots + ns))
    (k : ∀ (r : Option Value) (h' : ga_H), Post r h' → ga_G l E M R Z (pc + 3) lv (r.toList ++ rest) h' (cells + nc) (slots + ns)) : ga_G l E M R Z pc lv st h cells slots := by
  intro p e s m args below meth c H locs ls X hc hS hl
  have hcw := va_cwS (rm := ga_Rm d nc ns) (R := R) (index := index) (own := M.1.cls) n X.2.2.2.2.2.2.2.1 (ga_good (ws := va_wsS M.1.cls index M'.1 (ga_Wd M')) (fun w hw' => by
    rcases List.mem_append.mp hw' with h9 | h9
    · simp only [List.mem_cons, List.not_mem_nil, or_false] at h9
      rcases h9 with rfl | rfl | rfl
      · exact hw.1
      · exact hw.2
      · exact hy.2.1
    · exact ga_Wd_in hy.1 w h9)) rfl rfl rfl hy.2.2.1 ⟨hR.1, by have := hy.2.2.2; have := hR.2; show 8 + (M'.2.2.1 + 11) + 64 * d ≤ R.locals; omega⟩
  exact ga_backX X hS hl (vx_runS (As := As) (rest := rest) ⟨X.1, X.2.1, X.2.2.1, X.2.2.2.2.2.2.1, X.2.2.2.2.2.2.2.1⟩ hM hcw ⟨ga_Pre_blind, ga_pre X hc hS As⟩ rfl hn hl.1 hst (lv_room hW) hd hcs) kx k
theorem gr_callVX {M' : ga_M} {d nc ns index n b ci N : Nat} {T : u_T} {fs As rest : List Value} {Post : Option Value → ga_H → Prop} {PX' : String → ga_H → Prop} (hd : decode M.2.1 pc = .ok (.invokevirtual index, 3)) (hM : ga_OkX l E d M' (.ref b :: As) h nc ns Post PX') (hy : ga_yes M' n) (hw : Cond.methodLink M.1.cls index M'.1 ∈ ga_Gl ∧ Cond.instanceMethod M'.1 ∈ ga_Gl ∧ Cond.selects M'.1.cls M'.1 M'.1 ∈ ga_Gl) (hb : h b = some (ga_o ci fs)) (hcl : vwCl[ci]? = some (M'.1.cls, T, N)) (hn : As.length = n) (hst : st = As.reverse ++ .ref b :: rest) (hW : (rest.map fun v => v.category).sum ≤ 8) (hR : d + 1 ≤ R.frames ∧ 64 * (d + 1) ≤ R.locals) (hcs : cells + nc ≤ R.cells ∧ slots + ns ≤ R.slots)
    (kx : ∀ (Y : String) (h' : ga_H), PX' Y h' → ga_GT l E M R Z pc lv Y h' (cells + nc) (slots + ns))
    (k : ∀ (r : Option Value) (h' : ga_H), Post r h' → ga_G l E M R Z (pc + 3) lv (r.toList ++ rest) h' (cells + nc) (slots + ns)) : ga_G l E M R Z pc lv st h cells slots := by
  intro p e s m args below meth c H locs ls X hc hS hl
  have hcw := cwV (rm := ga_Rm d nc ns) (R := R) (index := index) (own := M.1.cls) (C := M'.1.cls) n X.2.2.2.2.2.2.2.1 (ga_good (ws := wsV M.1.cls index M'.1.cls M'.1 (ga_Wd M')) (fun w hw' => by
    rcases List.mem_append.mp hw' with h9 | h9
    · simp only [List.mem_cons, List.not_mem_nil, or_false] at h9
      rcases h9 with rfl | rfl | rfl | rfl
      · exact hw.1
      · exact hw.2.1
      · exact hw.2.2
      · exact hy.2.1
    · exact ga_Wd_in hy.1 w h9)) rfl rfl rfl ⟨rfl, hy.2.2.1⟩ ⟨hR.1, by have := hy.2.2.2; have := hR.2; show 8 + (M'.2.2.1 + 11) + 64 * d ≤ R.locals; omega⟩
  obtain ⟨L, f0, hP, hD, hat, -, -⟩ := hc.at
  obtain ⟨q0, hq⟩ := hat b _ hb
  exact ga_backX X hS hl (vx_runV (As := As) (rest := rest) ⟨X.1, X.2.1, X.2.2.1, X.2.2.2.2.2.2.1, X.2.2.2.2.2.2.2.1⟩ hM hcw ⟨ga_Pre_blind, va_recv X.2.2.2.2.2.2.2.2.2.1.1 hP hcl hq, ga_pre X hc hS (.ref b :: As)⟩ rfl hn hl.1 hst (lv_room hW) hd hcs) kx k
/-- what a throw of X with a text asks of the tables -/
def ga_thr (ik is ic : Nat) (X text : String) (names : List String) : Prop := Cond.classLink "RecurrenceAnswers" ik X ∈ ga_Gl ∧ Cond.initialized X ∈ ga_Gl ∧ (is, text) ∈ ga_txt ∧ (Bundle.fit X = true ∧ ∀ n ∈ names, Bundle.fit n = true) ∧ (∀ w ∈ vx_atS "RecurrenceAnswers" ic X names, w ∈ ga_Gl ∨ (w = .castable X X ∧ X ∈ ga_exc) ∨ ∃ y, y ∈ ga_dcl ∧ w = .declares (Bundle.initS y)) ∧ (∀ w ∈ Cond.classLink "RecurrenceAnswers" ik X :: Cond.initialized X :: vx_atS "RecurrenceAnswers" ic X names, vx_ot w = true) ∧ names.length ≤ 3
theorem gr_throw {ik is ic : Nat} {X text : String} {names : List String} (hl0 : l.stackTraces = false) (hM : M.1.cls = "RecurrenceAnswers") (hx : M.2.2.2.2 = []) (ht : ga_thr ik is ic X text names)
    (d0 : decode M.2.1 pc = .ok (.new ik, 3)) (d3 : decode M.2.1 (pc + 3) = .ok (.dup, 1)) (d4 : decode M.2.1 (pc + 4) = .ok (.ldc is, 2)) (d6 : decode M.2.1 (pc + 6) = .ok (.invokespecial ic, 3)) (d9 : decode M.2.1 (pc + 9) = .ok (.athrow, 1))
    (hR : 7 ≤ R.frames ∧ 448 ≤ R.locals) (hst : (st.map fun v => v.category).sum ≤ 8) (hcs : cells + 1 ≤ R.cells ∧ slots + 6 ≤ R.slots) (hn : cells + 1 ≤ nc ∧ slots + 6 ≤ ns) (hp : PX X h) : ga_G l E M R (ga_ZX E Post PX nc ns) pc lv st h cells slots := by
  intro p e s m args below meth c H locs ls C hc hS hl
  obtain ⟨t1, t2, t3, t4, t5, t6, t7⟩ := ht
  have hstr := C.2.2.2.2.2.2.2.2.2.1.2.2.2.2
  obtain ⟨sa, hsa⟩ := hstr.1 _ t3
  refine vx_throwS (names := names) (A := ga_A E) C.1 C.2.1 hl0 (own := "RecurrenceAnswers") (by rw [← hM]; exact C.2.2.2.2.2.2.1) t4.1 t4.2 (C.2.2.2.2.2.2.2.1 _ t1) (C.2.2.2.2.2.2.2.1 _ t2) hsa (fun w hw => ?_) t6 C.2.2.2.2.2.2.2.2.2.2.2.1 C.2.2.2.2.2.2.2.2.2.2.2.2 hS (hl.1.trans C.2.2.1.symm) d0 d3 d4 d6 d9 (fun x hx2 => by rw [C.2.2.2.2.2.2.2.2.2.2.1, hx] at hx2; cases hx2) (by omega) (by omega) hcs.1 hcs.2 C.2.2.2.2.1 (fun t ha hz hk => ?_) hS.2.2 hn.1 hn.2
  · rcases t5 w hw with z | ⟨rfl, z⟩ | ⟨y, hy, rfl⟩
    · exact C.2.2.2.2.2.2.2.1 _ z
    · exact va_Nw.use rfl (hstr.2.1 X z)
    · exact va_Nw.use rfl (hstr.2.2.2 y hy)
  · exact ⟨⟨h, hp, hc.grow hk⟩, Nat.le_trans hS.1 hz, fun q h1 h2 => by rw [hk q (Nat.lt_of_lt_of_le h1 hS.1)]; exact hS.2.1 q h1 h2⟩
end GX
