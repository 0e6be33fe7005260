/-! Rules of the law: the script, its helpers with handlers, its switch; the two sides' cells together -/
def Zs (b L : Nat) (xs : Nat → Int32) (Z : List Frame → Array Value → State → State → Prop) : List Frame → Array Value → State → State → Prop := fun below args s t => va_X b L xs s s.heap ∧ b < s.heap.size → Z below args s t
section LW
variable {l : Launch} {E : ga_E} {M : ga_M} {R : Room} {Z : List Frame → Array Value → State → State → Prop} {pc : Nat} {lv : List (Option Value)} {st : List Value} {h : ga_H} {cells slots : Nat} {b L : Nat} {xs : Nat → Int32}
theorem gr_S (k : ga_G l E M R Z pc lv st h cells slots) : ga_G l E M R (Zs b L xs Z) pc lv st h cells slots := fun p e s m args below meth c H locs ls X hc hS hl => by
  intro T hT Xs
  obtain ⟨t, a1, b1⟩ := k p e s m args below meth c H locs ls X hc hS hl T hT Xs
  exact ⟨t, a1, fun _ => b1⟩
theorem gr_sld {j : Nat} (hd : decode M.2.1 pc = .ok (.iaload, 1)) (hbE : b < ga_N0 E) (hj : j < L) (hL : L ≤ 3585) (k : ga_G l E M R (Zs b L xs Z) (pc + 1) lv (.int (xs j) :: st) h cells slots) : ga_G l E M R (Zs b L xs Z) pc lv (.int (nI j) :: .ref b :: st) h cells slots := fun p e s m args below meth c H locs ls X hc hS hl => by
  by_cases hF : va_X b L xs s s.heap ∧ b < s.heap.size
  · refine va_sld X.1 X.2.1 hF.1 hF.2 (A := ga_A E) (Nat.not_le.mpr hbE) hS (vp_in_nI hj (by omega)) hd ?_
    rw [nI_clamp (by omega)]
    exact k p e s m args below meth c H locs ls X hc hS hl
  · intro T hT Xs
    exact ⟨_, Steps.refl _, fun z => absurd z hF⟩
theorem gr_slen (hd : decode M.2.1 pc = .ok (.arraylength, 1)) (hbE : b < ga_N0 E) (k : ga_G l E M R (Zs b L xs Z) (pc + 1) lv (.int (nI L) :: st) h cells slots) : ga_G l E M R (Zs b L xs Z) pc lv (.ref b :: st) h cells slots := fun p e s m args below meth c H locs ls X hc hS hl => by
  by_cases hF : va_X b L xs s s.heap ∧ b < s.heap.size
  · exact va_slen X.1 X.2.1 hF.1 hF.2 (A := ga_A E) (Nat.not_le.mpr hbE) hS hd (k p e s m args below meth c H locs ls X hc hS hl)
  · intro T hT Xs
    exact ⟨_, Steps.refl _, fun z => absurd z hF⟩
theorem gr_tabOut {dflt lo hi : Int} {offs : Array Int} {len : Nat} {x : Int32} (tgt : Nat) (hd : decode M.2.1 pc = .ok (.tableswitch dflt lo hi offs, len)) (hx : x.toInt < lo ∨ hi < x.toInt) (ht : (pc : Int) + dflt = (tgt : Int)) (k : ga_G l E M R Z tgt lv st h cells slots) : ga_G l E M R Z pc lv (.int x :: st) h cells slots := fun p e s m args below meth c H locs ls X hc hS hl => lv_tableOut X.1 X.2.1 hd hx ht (k p e s m args below meth c H locs ls X hc hS hl)
theorem gr_tabIn {dflt lo hi : Int} {offs : Array Int} {len : Nat} {x : Int32} {off : Int} (tgt : Nat) (hd : decode M.2.1 pc = .ok (.tableswitch dflt lo hi offs, len)) (h1 : ¬ x.toInt < lo) (h2 : ¬ hi < x.toInt) (ho : offs[(x.toInt - lo).toNat]? = some off) (ht : (pc : Int) + off = (tgt : Int)) (k : ga_G l E M R Z tgt lv st h cells slots) : ga_G l E M R Z pc lv (.int x :: st) h cells slots := fun p e s m args below meth c H locs ls X hc hS hl => lv_tableIn X.1 X.2.1 hd h1 h2 ho ht (k p e s m args below meth c H locs ls X hc hS hl)
/-- a method with handlers that lets nothing out -/
def ga_WdW (M : ga_M) (hh : List (Nat × Nat × Nat × Nat)) : List Cond := Cond.codeWith M.1 M.2.1 M.2.2.1 M.2.2.2.1 hh :: ga_Gl
def ga_OkW (l : Launch) (E : ga_E) (d : Nat) (M : ga_M) (hh : List (Nat × Nat × Nat × Nat)) (As : List Value) (h : ga_H) (nc ns : Nat) (Post : Option Value → ga_H → Prop) : Prop := vx_Met l M.1 (ga_WdW M hh) (ga_Rm d nc ns) (va_Pc As (ga_Pre E h)) (ga_Q E Post) (ga_XC E (fun _ _ => False)) nc ns (ga_A E)
theorem ga_OkW.of {d nc ns : Nat} {As : List Value} {Post : Option Value → ga_H → Prop} {hh : List (Nat × Nat × Nat × Nat)} (k : Nat) (lv : List (Option Value)) (hy : plainName M.1.cls = true) (hx : M.2.2.2.2 = tableOf hh) (ha : (lg_sl As).length ≤ M.2.2.1) (hlv : ga_args As ++ List.replicate k none = lv)
    (g : ga_G l E M (ga_Rm d nc ns) (ga_ZX E Post (fun _ _ => False) nc ns) 0 lv [] h 0 0) : ga_OkW l E d M hh As h nc ns Post := by
  refine vx_ofWH (cc := M.2.1) (maxL := M.2.2.1) (ret := M.2.2.2.1) (hh := hh) hy rfl ?_
  intro p e s m args below meth c s₁ B hml hv
  obtain ⟨rfl, hv⟩ := hv
  have hts := atoms_spec (ws := ga_WdW M hh) B.pre
  rw [lg_entry_eq]
  subst hlv
  exact g p e s m _ below meth c s.heap [] _ ⟨B.exec, B.bytes, hml, B.returns, B.notSynchronized, (name_of_methodNamed B.named B.method).1, findClass_of_methodNamed B.named, fun w hw => hts w (List.mem_cons_of_mem _ hw), hv.1, hv.2.1, (vx_table (x := M.1) B (hts _ List.mem_cons_self)).trans hx.symm, hv.2.2.1⟩ hv.2.2.2 va_S.rf (ga_L.entry As ha)
theorem gr_callSW {M' : ga_M} {hh : List (Nat × Nat × Nat × Nat)} {d nc ns index n : Nat} {As rest : List Value} {Post : Option Value → ga_H → Prop} (hd : decode M.2.1 pc = .ok (.invokestatic index, 3)) (hM : ga_OkW l E d M' hh As h nc ns Post) (hcx : Cond.codeWith M'.1 M'.2.1 M'.2.2.1 M'.2.2.2.1 hh ∈ ga_Gl) (hi : Cond.initialized M'.1.cls ∈ ga_Gl) (hy : M'.1.cls ≠ "java/lang/invoke/MethodHandle" ∧ M'.1.cls ≠ "java/lang/invoke/VarHandle" ∧ (parseMethodDescriptor M'.1.desc).map (fun d => d.parameters.length) = some n) (hmx : M'.2.2.1 ≤ 45) (hw : Cond.methodLink M.1.cls index M'.1 ∈ ga_Gl ∧ Cond.static M'.1 ∈ ga_Gl) (hn : As.length = n) (hst : st = As.reverse ++ rest) (hW : (rest.map fun v => v.category).sum ≤ 8) (hR : d + 1 ≤ R.frames ∧ 64 * (d + 1) ≤ R.locals) (hcs : cells + nc ≤ R.cells ∧ slots + ns ≤ R.slots)
    (k : ∀ (r : Option Value) (h' : ga_H), Post r h' → ga_G l E M R Z (pc + 3) lv (r.toList ++ rest) h' (cells + nc) (slots + ns)) : ga_G l E M R Z pc lv st h cells slots := by
  intro p e s m args below meth c H locs ls X hc hS hl
  have hcw := vx_cwSW (rm := ga_Rm d nc ns) (R := R) (index := index) (own := M.1.cls) n X.2.2.2.2.2.2.2.1 (ga_good (ws := va_wsS M.1.cls index M'.1 (ga_WdW M' hh)) (fun w hw' => by
    rcases List.mem_append.mp hw' with h9 | h9
    · simp only [List.mem_cons, List.not_mem_nil, or_false] at h9
      rcases h9 with rfl | rfl | rfl
      · exact hw.1
      · exact hw.2
      · exact hi
    · rcases List.mem_cons.mp h9 with rfl | h9
      · exact hcx
      · exact h9)) rfl rfl rfl hy ⟨hR.1, by have := hR.2; show 8 + (M'.2.2.1 + 11) + 64 * d ≤ R.locals; omega⟩
  exact ga_backX X hS hl (vx_runSX (As := As) (rest := rest) ⟨X.1, X.2.1, X.2.2.1, X.2.2.2.2.2.2.1, X.2.2.2.2.2.2.2.1⟩ hM hcw ⟨ga_Pre_blind, ga_pre X hc hS As⟩ rfl hn hl.1 hst (lv_room hW) hd hcs) (fun Y h' z => z.elim) k
/-- a method that reads the script -/
def ga_PS (E : ga_E) (h : ga_H) (b L : Nat) (xs : Nat → Int32) (U : State) : Prop := ga_Pre E h U ∧ va_X b L xs U U.heap ∧ b < U.heap.size
theorem ga_PS_blind {As : List Value} : FrameBlind (va_Pc As (ga_PS E h b L xs)) := fun a U g mk q => by
  obtain ⟨q0, ⟨q1, q2, q3, q4⟩, q5, q6⟩ := q
  exact ⟨q0, ⟨q1, q2.call, q3.moved (Vm.Alike.refl U.vm), q4⟩, q5.moved (Vm.Alike.refl U.vm), q6⟩
def ga_OkS (l : Launch) (E : ga_E) (d : Nat) (M : ga_M) (As : List Value) (h : ga_H) (b L : Nat) (xs : Nat → Int32) (Post : Option Value → ga_H → Prop) : Prop := Met l M.1 (ga_Wd M) (ga_Rm d 0 0) (va_Pc As (ga_PS E h b L xs)) (ga_Q E Post) 0 0 (ga_A E)
theorem ga_OkS.of {d : Nat} {As : List Value} {Post : Option Value → ga_H → Prop} (k : Nat) (lv : List (Option Value)) (hy : plainName M.1.cls = true) (hx : M.2.2.2.2 = []) (ha : (lg_sl As).length ≤ M.2.2.1) (hlv : ga_args As ++ List.replicate k none = lv)
    (g : ga_G l E M (ga_Rm d 0 0) (Zs b L xs (ga_Z E Post 0 0)) 0 lv [] h 0 0) : ga_OkS l E d M As h b L xs Post := by
  refine Met.ofW (cc := M.2.1) (maxL := M.2.2.1) (ret := M.2.2.2.1) hy rfl ?_
  intro p e s m args below meth c s₁ B hml hv
  obtain ⟨rfl, hv, hX⟩ := hv
  have hts := atoms_spec (ws := ga_Wd M) B.pre
  rw [lg_entry_eq]
  subst hlv
  have hG := g p e s m _ below meth c s.heap [] _ ⟨B.exec, B.bytes, hml, B.returns, B.notSynchronized, (name_of_methodNamed B.named B.method).1, findClass_of_methodNamed B.named, fun w hw => hts w (List.mem_cons_of_mem _ hw), hv.1, hv.2.1, by
    have he := BodyLoose.noHandlers B (hts _ List.mem_cons_self)
    rw [hx]
    simpa using he, hv.2.2.1⟩ hv.2.2.2 va_S.rf (ga_L.entry As ha)
  intro T hT Xs
  obtain ⟨t, a1, b1⟩ := hG T hT Xs
  exact ⟨t, a1, b1 hX⟩
theorem gr_callSS {M' : ga_M} {d index n : Nat} {As rest : List Value} {Post : Option Value → ga_H → Prop} (hd : decode M.2.1 pc = .ok (.invokestatic index, 3)) (hM : ga_OkS l E d M' As h b L xs Post) (hbE : b < ga_N0 E) (hy : ga_yes M' n) (hw : Cond.methodLink M.1.cls index M'.1 ∈ ga_Gl ∧ Cond.static M'.1 ∈ ga_Gl) (hn : As.length = n) (hst : st = As.reverse ++ rest) (hW : (rest.map fun v => v.category).sum ≤ 8) (hR : d + 1 ≤ R.frames ∧ 64 * (d + 1) ≤ R.locals) (hcs : cells ≤ R.cells ∧ slots ≤ R.slots)
    (k : ∀ (r : Option Value) (h' : ga_H), Post r h' → ga_G l E M R (Zs b L xs Z) (pc + 3) lv (r.toList ++ rest) h' cells slots) : ga_G l E M R (Zs b L xs Z) pc lv st h cells slots := by
  intro p e s m args below meth c H locs ls X hc hS hl
  by_cases hF : va_X b L xs s s.heap ∧ b < s.heap.size
  · have hcw := va_cwS (rm := ga_Rm d 0 0) (R := R) (index := index) (own := M.1.cls) n X.2.2.2.2.2.2.2.1 (ga_good (ws := va_wsS M.1.cls index M'.1 (ga_Wd M')) (fun w hw' => by
      rcases List.mem_append.mp hw' with h9 | h9
      · simp only [List.mem_cons, List.not_mem_nil, or_false] at h9
        rcases h9 with rfl | rfl | rfl
        · exact hw.1
        · exact hw.2
        · exact hy.2.1
      · exact ga_Wd_in hy.1 w h9)) rfl rfl rfl hy.2.2.1 ⟨hR.1, by have := hy.2.2.2; have := hR.2; show 8 + (M'.2.2.1 + 11) + 64 * d ≤ R.locals; omega⟩
    exact ga_back X hS hl (va_runS (As := As) (rest := rest) ⟨X.1, X.2.1, X.2.2.1, X.2.2.2.2.2.2.1, X.2.2.2.2.2.2.2.1⟩ hM hcw ⟨ga_PS_blind, fun U hU hW => ⟨rfl, (ga_pre X hc hS As U hU hW).2, by
      rw [hU]
      exact ⟨(hF.1.kept (hS.2.1 b hF.2 (Nat.not_le.mpr hbE))).moved hW.alike, Nat.lt_of_lt_of_le hF.2 hS.1⟩⟩⟩ rfl hn hl.1 hst (lv_room hW) hd hcs) k
  · intro T hT Xs
    exact ⟨_, Steps.refl _, fun z => absurd z hF⟩
end LW
/-- the script's number at k, 0 beyond its end -/
def scr (L : Nat) (xs : Nat → Int32) (k : Nat) : Int32 := if k < L then xs k else 0
theorem c_cell (l : Launch) (E : ga_E) (d : Nat) (h : ga_H) (b L : Nat) (xs : Nat → Int32) (hbE : b < ga_N0 E) (hL : L ≤ 3585) (k : Nat) (hk : k < 100) : ga_OkS l E d mL_cell [.ref b, .int (nI k)] h b L xs (fun r0 h' => h' = h ∧ r0 = some (.int (scr L xs k))) := by
  refine ga_OkS.of 0 _ (by decide) rfl (Nat.le_of_ble_eq_true rfl) rfl ?_
  refine gr_iload_n dL_cell_0 rfl (gr_aload_n dL_cell_1 rfl (gr_slen dL_cell_2 hbE ?_))
  refine gr_icmpgeN 12 dL_cell_3 (by decide) (by omega) (by omega) (fun c => ?_) (fun c => ?_)
  · refine gr_iconst (v := nI 0) dL_cell_12 rfl ?_
    exact gr_S (gr_ireturn dL_cell_13 rfl (Nat.le_refl _) (Nat.le_refl _) ⟨rfl, by unfold scr; rw [if_neg (by omega)]; rfl⟩)
  · refine gr_aload_n dL_cell_6 rfl (gr_iload_n dL_cell_7 rfl (gr_sld dL_cell_8 hbE c hL ?_))
    refine gr_goto 13 dL_cell_9 (by decide) ?_
    exact gr_S (gr_ireturn dL_cell_13 rfl (Nat.le_refl _) (Nat.le_refl _) ⟨rfl, by unfold scr; rw [if_pos c]⟩)
/-! The cells of both sides and the law's own -/
def e0 : ga_H := fun _ => none
def HP (Z : Nat → Nat) (c : Nat → va_E) (A : Nat → Nat) (md : Nat → va_E) (q : Nat) (x : va_E) : ga_H := ga_up (ga_ov (ga_ov e0 Z c 65) A md 16) q x
def Dj (Z A : Nat → Nat) (q : Nat) : Prop := ga_inj Z 65 ∧ ga_inj A 16 ∧ (∀ i, i < 65 → ∀ j, j < 16 → Z i ≠ A j) ∧ (∀ i, i < 65 → q ≠ Z i) ∧ ∀ j, j < 16 → q ≠ A j
theorem hp_m {Z A : Nat → Nat} {c md : Nat → va_E} {q : Nat} {x : va_E} (hD : Dj Z A q) : HP Z c A md q x = ga_ov (ga_up (ga_ov e0 Z c 65) q x) A md 16 := ga_ov_base hD.2.2.2.2
theorem hp_c {Z A : Nat → Nat} {c md : Nat → va_E} {q : Nat} {x : va_E} (hD : Dj Z A q) : HP Z c A md q x = ga_ov (ga_up (ga_ov e0 A md 16) q x) Z c 65 := by
  obtain ⟨d1, d2, d3, d4, d5⟩ := hD
  refine ga_ov_ext d1 (fun k hk => ?_) (fun a ha => ?_)
  · unfold HP
    rw [ga_up_ne (fun z => d4 k hk z.symm), ga_ov_out (fun j hj => d3 k hk j hj)]
    exact ga_ov_at d1 hk
  · unfold HP
    by_cases e : a = q
    · subst e; rw [ga_up_eq, ga_up_eq]
    · rw [ga_up_ne e, ga_up_ne e]
      by_cases e2 : ∃ j, j < 16 ∧ a = A j
      · obtain ⟨j, hj, rfl⟩ := e2
        rw [ga_ov_at d2 hj, ga_ov_at d2 hj]
      · have e3 : ∀ j, j < 16 → a ≠ A j := fun j hj z => e2 ⟨j, hj, z⟩
        rw [ga_ov_out e3, ga_ov_out e3, ga_ov_out ha]
theorem hp_q {Z A : Nat → Nat} {c md : Nat → va_E} {q : Nat} {x : va_E} : HP Z c A md q x q = some x := ga_up_eq
theorem hp_w {Z A : Nat → Nat} {c md : Nat → va_E} {q : Nat} {x y : va_E} : ga_up (HP Z c A md q x) q y = HP Z c A md q y := ga_up_up _ _ _ _
theorem hp_z {Z A : Nat → Nat} {c md : Nat → va_E} {q : Nat} {x : va_E} (hD : Dj Z A q) {k : Nat} (hk : k < 65) : HP Z c A md q x (Z k) = some (c k) := by
  rw [hp_c hD]; exact ga_ov_at hD.1 hk
theorem hp_a {Z A : Nat → Nat} {c md : Nat → va_E} {q : Nat} {x : va_E} (hD : Dj Z A q) {k : Nat} (hk : k < 16) : HP Z c A md q x (A k) = some (md k) := by
  rw [hp_m hD]; exact ga_ov_at hD.2.1 hk
