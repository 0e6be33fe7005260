/-! THE CLAIM OUT OF ONE WALK OF THE LAW'S BODY. Your part is whole_start (and what it stands on); all else here is the same for every law, but numbers. -/
def R_law : String := "RecurrenceAnswersLaw"
def lw_P (b : Addr) (xs : List Int32) (args : Array Value) (s : State) : Prop := args = #[.ref b] ∧ s.IntsAt b xs ∧ xs.length ≤ 3585 ∧ (Jvm.Cond.and given_1 narrow_1).before args s = true
def lw_Q (_ : Array Value) (s : State) (o : Outcome) (t : State) : Prop := o = .returned (some (.int 1)) ∧ Framed s o t [] 603072 7165560
def lw_Z (below : List Frame) (a : Array Value) (s : State) : State → Prop := fun t => ∃ o, t.status = .running ∧ Ended t below o ∧ lw_Q a s o t
/-- the law's own end, with 1 on the stack, nothing written that was there before, its room as the claim has it -/
theorem lw_ret {p : Program} {l : Launch} {e : Env} {s : State} {m : MethodId} {below : List Frame} {meth : Method} {c : Code} {args : Array Value} (hx : p.tables.exec = Jvm.exec) (hb : c.code = code) (hr : meth.sig.returnType = ret) (hlocks : meth.locks = false) {pc : Nat} {H : Heap} {ls : Array Slot} (hdg : decode code pc = .ok (.ireturn, 1)) : W p l e room_1 s m args below meth c H [] 603072 7165560 (lw_Z below args s) (F0 m pc ls [.int 1]) := by
  intro T hT X
  obtain ⟨fs, hret, hrun, hended, hW, hframe⟩ := X.leave (v := some (.int 1)) (hlocks := hlocks) (fun h => by rw [hr] at h; cases h)
  have hmeth' : T.vm.method? m = some meth := X.method'
  refine ⟨T.setFrames fs, ?_, .returned (some (.int 1)), hrun, hended, rfl, ⟨_, rfl⟩, hW, hframe⟩
  jvm_step X.here [X.here.top, hx, hb, hdg, hmeth', hr, ret, narrow_b1]
  (try refine ⟨rfl, ?_⟩); (try refine ⟨rfl, ?_⟩)
  first | (intro acts; rw [hret _ acts rfl rfl rfl]) | rw [hret _ _ rfl rfl rfl]
  exact Steps.refl _
/-- what holds at the law's entry: the machine, the code, the tables' words (any of lw_tbl by 'hts w (by decide +kernel)'), the script of L ints xs at the cell b, what the Statement gives of the start (any of its parts by flat_of_before) -/
def lw_At (p : Program) (s : State) (m : MethodId) (meth : Method) (c : Code) (b L : Nat) (xs : Nat → Int32) : Prop :=
  p.tables.exec = Jvm.exec ∧ c.code = code ∧ meth.sig.returnType = ret ∧ c.maxLocals = 7 ∧ s.vm.findClass R_law = some m.cls ∧ (∀ w ∈ lw_tbl, w.before #[Value.ref b] s = true) ∧ va_X b L xs s s.heap ∧ b < s.heap.size ∧ meth.locks = false ∧ (Jvm.Cond.and given_1 narrow_1).before #[Value.ref b] s = true ∧ meth.name = yL_law.name ∧ c.exceptionTable.toList = []
theorem w_arr {s : State} {args : Array Value} {ty : FieldType} (h : (Cond.arrayClass ty).before args s = true) : ∃ c : ClassId, ArrOfT s c ty ∧ s.vm.findClass ("[" ++ ty.toString) = some c := by
  obtain ⟨c, k, comp, f, hk, hkind⟩ := Cond.arrayClass_spec h
  exact ⟨c, fun N z => ⟨(fun q hq => by cases hq), k, hk, comp, hkind⟩, f⟩
theorem w_kend (l : Launch) (E : ga_E) (b L : Nat) (xs : Nat → Int32) (lv : List (Option Value)) (H : ga_H) : ga_G l E mL_law room_1 (Zs b L xs (fun below args s t => s.heap.size ≤ ga_N0 E → lw_Z below args s t)) 1203 lv [.int (nI 1)] H 603072 7165560 := by
  intro p e s m args below meth c H locs ls X hc hS hl
  by_cases hF : s.heap.size ≤ ga_N0 E
  · intro T hT Xs
    have K : W p l e room_1 s m args below meth c H locs 603072 7165560 (lw_Z below args s) (F0 m 1203 ls [.int 1]) := va_forget (fun q hq => Nat.le_trans hF (hS.2.2 q hq)) (lw_ret X.1 X.2.1 X.2.2.2.1 X.2.2.2.2.1 dL_law_1203)
    obtain ⟨t, a1, b1⟩ := K T hT Xs
    exact ⟨t, a1, fun _ _ => b1⟩
  · intro T hT Xs
    exact ⟨_, Steps.refl _, fun _ z => absurd z hF⟩
theorem w_J0 : ∀ w ∈ u_ws RJ0 TJ0 2, w ∈ tables_1 := by decide +kernel
theorem w_J1 : ∀ w ∈ u_ws RJx00060 TJx00060 6, w ∈ tables_1 := by decide +kernel
theorem w_nst : ∀ q ∈ ga_Nst, Cond.methodLinkNest q.1 q.2.1 q.2.2 "RecurrenceAnswers" ∈ tables_1 := by decide +kernel
theorem w_txt : ∀ q ∈ ga_txt, Cond.stringRef "RecurrenceAnswers" q.1 q.2 ∈ tables_1 := by decide +kernel
theorem w_exc : ∀ x ∈ ga_exc, Cond.castable x x ∈ tables_1 := by decide +kernel
theorem w_dcl : ∀ x ∈ ga_dcl, Cond.declares (Bundle.initS x) ∈ tables_1 := by decide +kernel
theorem w_ao : Cond.arrayOver (.object RX6) ∈ tables_1 ∧ Cond.arrayOver (.array .int) ∈ tables_1 := by decide +kernel
theorem w_lay : Cond.laysStatic Bundle.tN "UNASSIGNED_STACK" Bundle.steD ∈ tables_1 ∧ Cond.laysStatic Bundle.tN "SUPPRESSED_SENTINEL" Bundle.listD ∈ tables_1 ∧ Cond.initialized Bundle.tN ∈ tables_1 := by decide +kernel
theorem w_cls {s : State} {args : Array Value} (hts : ∀ w ∈ lw_tbl, w.before args s = true) : ∃ (dC : Nat → ClassId) (dI : Nat → Nat → Nat), ∀ (k : Nat) (q : vw_C), vwCl[k]? = some q → u_Kn s q.1 q.2.1 q.2.2 (dC k) (dI k) := by
  have hG : ∀ w ∈ ga_Gl, w.before args s = true := fun w hw => hts w (List.mem_filter.mp hw).1
  have hT : ∀ w ∈ tables_1, w.before args s = true := fun w hw => hts w (List.mem_append_right _ hw)
  obtain ⟨c0, i0, k0⟩ := u_known (C := RJ0) (T := TJ0) (N := 2) hT w_J0 (hG _ wn_J0)
  obtain ⟨c1, i1, k1⟩ := u_known (C := RJx00060) (T := TJx00060) (N := 6) hT w_J1 (hG _ wn_Jx00060)
  obtain ⟨c2, i2, k2⟩ := u_known (C := RX0) (T := TX0) (N := 9) hG cls_X0.2.1 (hG _ wn_X0)
  obtain ⟨c3, i3, k3⟩ := u_known (C := RX1) (T := TX1) (N := 3) hG cls_X1.2.1 (hG _ wn_X1)
  obtain ⟨c4, i4, k4⟩ := u_known (C := RX2) (T := TX2) (N := 4) hG cls_X2.2.1 (hG _ wn_X2)
  obtain ⟨c5, i5, k5⟩ := u_known (C := RX5) (T := TX5) (N := 7) hG cls_X5.2.1 (hG _ wn_X5)
  obtain ⟨c6, i6, k6⟩ := u_known (C := RX6) (T := TX6) (N := 2) hG cls_X6.2.1 (hG _ wn_X6)
  obtain ⟨c7, i7, k7⟩ := u_known (C := RX7) (T := TX7) (N := 3) hG cls_X7.2.1 (hG _ wn_X7)
  obtain ⟨c8, i8, k8⟩ := u_known (C := RX8) (T := TX8) (N := 7) hG cls_X8.2.1 (hG _ wn_X8)
  obtain ⟨c9, i9, k9⟩ := u_known (C := RX9) (T := TX9) (N := 22) hG cls_X9.2.1 (hG _ wn_X9)
  refine ⟨fun k => match k with | 0 => c0 | 1 => c1 | 2 => c2 | 3 => c3 | 4 => c4 | 5 => c5 | 6 => c6 | 7 => c7 | 8 => c8 | _ => c9, fun k => match k with | 0 => i0 | 1 => i1 | 2 => i2 | 3 => i3 | 4 => i4 | 5 => i5 | 6 => i6 | 7 => i7 | 8 => i8 | _ => i9, fun k q hq => ?_⟩
  rcases k with _ | _ | _ | _ | _ | _ | _ | _ | _ | _ | k
  · cases hq; exact k0
  · cases hq; exact k1
  · cases hq; exact k2
  · cases hq; exact k3
  · cases hq; exact k4
  · cases hq; exact k5
  · cases hq; exact k6
  · cases hq; exact k7
  · cases hq; exact k8
  · cases hq; exact k9
  · cases hq
theorem w_str {s : State} {b : Nat} (hts : ∀ w ∈ lw_tbl, w.before #[Value.ref b] s = true) (hgv : (Jvm.Cond.and given_1 narrow_1).before #[Value.ref b] s = true) : ga_Str s := by
  have hG : ∀ w ∈ ga_Gl, w.before #[Value.ref b] s = true := fun w hw => hts w (List.mem_filter.mp hw).1
  have hT : ∀ w ∈ tables_1, w.before #[Value.ref b] s = true := fun w hw => hts w (List.mem_append_right _ hw)
  have hs := flat_of_before _ hgv
  refine ⟨fun q hq => ?_, fun x hx => va_Nw.of rfl (hT _ (w_exc x hx)), fun q hq => ?_, fun x hx => va_Nw.of rfl (hT _ (w_dcl x hx))⟩
  · obtain ⟨cC, kC, hfc, -⟩ := Cond.instantiable_spec (hG _ wn_X8)
    obtain ⟨k, cf, i, a, hk, hcf, hcp, -, hr, hev⟩ := Cond.stringRef_spec hfc (hT _ (w_txt q hq))
    exact ⟨a, vk_R.of (hT _ (w_txt q hq)) hev⟩
  · simp only [ga_pas, List.mem_cons, List.not_mem_nil, or_false] at hq
    rcases hq with rfl | rfl | rfl | rfl
    · exact va_Nc.of (hs _ (by decide +kernel))
    · exact va_Nc.of (hs _ (by decide +kernel))
    · exact va_Nc.of (hs _ (by decide +kernel))
    · exact va_Nc.of (hs _ (by decide +kernel))
/-- YOUR PART: from the entry, for every script of at most 3585 ints, the law comes to its end with true -/
theorem whole_start {p : Program} {e : Env} {s : State} {m : MethodId} {below : List Frame} {meth : Method} {c : Code} (l : Launch) (hl0 : l.stackTraces = false) {b L : Nat} {xs : Nat → Int32} (hL : L ≤ 3585) (C0 : lw_At p s m meth c b L xs) : W p l e room_1 s m #[Value.ref b] below meth c s.heap [] 0 0 (lw_Z below #[Value.ref b] s) (entryFrame m ([Value.ref b] : List Value).toArray 7) := by
  obtain ⟨hx, hb, hr, hml, hown, hts, hX, hbl, hlocks, hgv, hnm, hex⟩ := C0
  have hG : ∀ w ∈ ga_Gl, w.before #[Value.ref b] s = true := fun w hw => hts w (List.mem_filter.mp hw).1
  have hT : ∀ w ∈ tables_1, w.before #[Value.ref b] s = true := fun w hw => hts w (List.mem_append_right _ hw)
  have hs := flat_of_before _ hgv
  obtain ⟨dC, dI, hKc⟩ := w_cls hts
  obtain ⟨cI, aI, fI⟩ := w_arr (hG _ ac_int)
  obtain ⟨cZ, aZ, fZ⟩ := w_arr (hG _ ac_boolean)
  obtain ⟨cJ, aJ, fJ⟩ := w_arr (hG _ ac_long)
  obtain ⟨pII, cII, kII, g1, g2, g3, g4, g5⟩ := arrayOverA_spec (hT _ w_ao.2)
  obtain ⟨pR, cR, kR, r1, r2, r3, r4, r5⟩ := Cond.arrayOver_spec (hT _ w_ao.1)
  have hE : ga_Tab ((dC, dI), (cI, cZ, cJ, cII, cR), s.heap.size) s := by
    refine ⟨⟨hKc, fun k q hk => ?_⟩, fun q hq => va_Nw.of rfl (hT _ (w_nst q hq)), va_AO.of (hT _ w_ao.1), hT _ w_ao.2, w_str hts hgv⟩
    rcases k with _ | _ | _ | _ | _ | k
    · cases hk; exact ⟨aI, fI⟩
    · cases hk; exact ⟨aZ, fZ⟩
    · cases hk; exact ⟨aJ, fJ⟩
    · cases hk; exact ⟨fun N z => ⟨(fun q hq => by cases hq), kII, g3, pII, g4⟩, g5⟩
    · cases hk; exact ⟨fun N z => ⟨(fun q hq => by cases hq), kR, r3, pR, r4⟩, kR, pR, r3, r4, r1, r5⟩
    · cases hk
  have hA : ∀ a : Nat, a < s.heap.size → ¬ ga_A ((dC, dI), (cI, cZ, cJ, cII, cR), s.heap.size) a := fun a h => Nat.not_le.mpr h
  have hSt : ga_Stc ((dC, dI), (cI, cZ, cJ, cII, cR), s.heap.size) s s.heap := ⟨vx_Zqof (hT _ w_lay.1) (hT _ w_lay.2.2) (hs _ (by decide +kernel)) hA, vx_Zqof (hT _ w_lay.2.1) (hT _ w_lay.2.2) (hs _ (by decide +kernel)) hA⟩
  have hC : ga_C ((dC, dI), (cI, cZ, cJ, cII, cR), s.heap.size) e0 s.heap := ⟨[], fun _ => ga_o 0 [], fun a c h => (by cases h), fun k x h => (by cases h), ⟨fun i j x y h => (by cases h), fun k x h => (by cases h)⟩⟩
  have G := law_run l hl0 ((dC, dI), (cI, cZ, cJ, cII, cR), s.heap.size) b L xs hbl hL (fun below args s9 t => s9.heap.size ≤ s.heap.size → lw_Z below args s9 t) (w_kend l _ b L xs) p e s m #[Value.ref b] below meth c s.heap [] _ ⟨hx, hb, hml, hr, hlocks, hnm, hown, hG, Nat.le_refl _, hE, hex, hSt⟩ hC va_S.rf (ga_L.entry (n := 7) (k := 6) [Value.ref b] (Nat.le_of_ble_eq_true rfl))
  rw [lg_entry_eq]
  intro T hT9 Xs
  obtain ⟨t, a1, b1⟩ := G T hT9 Xs
  exact ⟨t, a1, b1 ⟨hX, hbl⟩ (Nat.le_refl _)⟩
set_option maxHeartbeats 4000000 in
theorem lw_walk (l : Launch) (hl0 : l.stackTraces = false) (b : Addr) (xs : List Int32) : MetFree l x (headSpec (Jvm.Cond.code x code maxLocals ret :: tables_1) room_1) (lw_P b xs) (fun _ _ _ _ _ => True) lw_Q := by
  refine MetFree.of_bodyS (code := code) (maxLocals := maxLocals) (ret := ret) (by decide) ?_ ?_
  · intro args s m h hn
    obtain ⟨meth, c, h1, h2, h3, h4, h5, h6, -, -⟩ := Cond.code_spec hn (atoms_spec (ws := Jvm.Cond.code x code maxLocals ret :: tables_1) h _ List.mem_cons_self)
    exact ⟨meth, c, h1, h2, h3, h4, h5, h6⟩
  · intro p e s m args below meth c s₁ B hml0 hP _
    obtain ⟨rfl, hx, hbd, hgv⟩ := hP
    obtain ⟨scr, harrAt, hlist, hof, hsmall⟩ := hx
    obtain ⟨hcb, hkn, -, -⟩ := State.arrayAt?_spec harrAt
    have hown : s.vm.findClass R_law = some m.cls := findClass_of_methodNamed B.named
    have hts0 : ∀ c ∈ (Jvm.Cond.code x code maxLocals ret :: tables_1), c.before #[Value.ref b] s = true := atoms_spec (ws := Jvm.Cond.code x code maxLocals ret :: tables_1) B.pre
    have hts : ∀ w ∈ lw_tbl, w.before #[Value.ref b] s = true := k2_hts_sels lw_privs (fun w hw => hts0 w (List.mem_cons_of_mem _ hw)) lw_privs_ok
    have hml : c.maxLocals = 7 := B.maxLocals_eq (hts0 _ List.mem_cons_self)
    have X₀ : Stand p l e room_1 s m #[Value.ref b] below meth c s₁ [] 0 0 := Stand.of_body B
    have hh0 : s₁.heap = s.heap := by rw [B.state]; rfl
    have hsz : scr.slots.size = xs.length := by rw [← Array.length_toList, hlist, List.length_map]
    have hval : ∀ j : Nat, j < xs.length → scr.slots[j]? = some (.int (xs.getD j 0)) := fun j hj => by
      rw [← Array.getElem?_toList, hlist]
      simp [hj]
    have hbl : b < s.heap.size := (Array.getElem?_eq_some_iff.mp hcb).1
    have hX : va_X b xs.length (fun j => xs.getD j 0) s s.heap := ⟨scr, hcb, hof, hkn, hsz, hval⟩
    have K : W p l e room_1 s m #[Value.ref b] below meth c s₁.heap [] 0 0 (lw_Z below #[Value.ref b] s) (entryFrame m ([Value.ref b] : List Value).toArray 7) := by
      rw [hh0]
      exact whole_start l hl0 hbd ⟨B.exec, B.bytes, B.returns, hml, hown, hts, hX, hbl, B.notSynchronized, hgv, (name_of_methodNamed B.named B.method).1, by
        have he := BodyLoose.noHandlers B (hts0 _ List.mem_cons_self)
        simpa using he⟩
    obtain ⟨t, a1, o, b1, b2, b3⟩ := K s₁ rfl X₀
    exact ⟨t, o, a1, b1, b2, b3⟩
theorem lw_pre_spec {args : Array Value} {s : State} (h : (Jvm.Cond.and given_1 narrow_1).before args s = true) (hr : rest_1_c.before args s = true) : ∃ (b : Addr) (xs : List Int32), lw_P b xs args s := by
  have hs := flat_of_before _ h
  have hq := flat_of_before _ hr
  have hc : (Cond.count 1).before args s = true := hs _ (by decide +kernel)
  have harr : (Cond.arrayOf (.arg 0) .int).before args s = true := hs _ (by decide +kernel)
  have hle : (Cond.le (.length (.arg 0)) (.int 3585)).before args s = true := hs _ (by decide +kernel)
  have hlen : (Cond.isInt (.length (.arg 0))).before args s = true := hq _ (by decide +kernel)
  have hall : (Cond.all (.arg 0) (.isInt (.elem (.arg 0) (.index 0)))).before args s = true := hq _ (by decide +kernel)
  obtain ⟨b, xs, hb, hx⟩ := State.ints_of_pre rfl harr hlen hall
  have hsm : xs.length < 2 ^ 31 := hx.choose_spec.2.2.2
  have hev : (Term.length (.arg 0)).eval args s none [] s = some (.int xs.length.toInt32) := hx.length_eval hb
  have hv := Cond.le_ints hev (show (Term.int 3585).eval args s none [] s = some (.int 3585) from rfl)
  have hd : xs.length.toInt32 ≤ 3585 := by
    simpa [Cond.before, Cond.holds, hv] using hle
  have hN : xs.length ≤ 3585 := (Int32.ofNat_le_ofNat hsm (by decide)).mp (show Int32.ofNat xs.length ≤ Int32.ofNat 3585 from hd)
  exact ⟨b, xs, Cond.one_arg hc (show args[0]? = some (.ref b) from hb), hx, hN, h⟩
theorem lw_comes (l : Launch) (hl0 : l.stackTraces = false) : Comes l x (Jvm.Cond.code x code maxLocals ret :: tables_1) room_1 (fun tb e args s => Calls_1 tb e args s ∧ rest_1 tb e args s ∧ Pre_1 tb e args s)
    (fun _ _ args s o t => lw_Q args s o t) := by
  intro p e ha hc hk s m args below hf hfit hheap happ hpre
  obtain ⟨b, xs, hP⟩ := lw_pre_spec hpre.2.2 hpre.2.1
  obtain ⟨k, o, h1, h2, h3, hQ⟩ := lw_walk l hl0 b xs p e ha hc hk s m args below hf ((Spec.applies_iff_loose hf).mp happ).1 hP trivial
  exact ⟨k, o, h1, h2, h3, hQ⟩
theorem lw_frame {s t : State} {o : Outcome} {args : Array Value} (h : Framed s o t [] 603072 7165560) :
    Framed s o t (fieldLocs frame_1_writes args s ++ arrayLocs frame_1_arrays args s ++ staticLocs frame_1_statics s) 603072 7165560 := h
theorem lw_limb (L : Cond) (hL : ∀ (args : Array Value) (s t : State), L.after args s (.returned (some (.int 1))) t = true) :
    ArmFor flags0 classFile x code maxLocals ret World_1 tables_1 room_1 Calls_1 rest_1 Pre_1
      (fun tb e a s o t => postC L tb e a s o t ∧ Framed s o t (fieldLocs frame_1_writes a s ++ arrayLocs frame_1_arrays a s ++ staticLocs frame_1_statics s) 603072 7165560) := by
  intro l hfl _ _ p e ha hc hk s m args below hf hfit hheap happ hpre
  have hl0 : l.stackTraces = false := by unfold Launch.stackTraces; rw [hfl]; decide +kernel
  obtain ⟨k, o, h1, h2, h3, rfl, hF⟩ := lw_comes l hl0 p e ha hc hk s m args below hf hfit hheap happ hpre
  exact ⟨k, _, h1, h2, h3, hL args s _, lw_frame hF⟩
theorem i_vc : Claimed_1_1 ∧ Claimed_1_2 := ⟨lw_limb limb_1_1 (fun args s t => by simp [limb_1_1, Cond.after, Cond.holds, Cond.value]), lw_limb limb_1_2 (fun args s t => Cond.after_iff.mpr (by
  first | (rw [show limb_1_2 = Cond.eq .result (.int 1) from rfl, Cond.eq_ints (x := 1) (y := 1) rfl rfl]; simp; done) | (simp [limb_1_2, Cond.value, Term.eval]; done)))⟩
