/-! The layer: one picture of the heap (address to cell), one word list, one room; a judgement ga_G of a method's frame that hides the machine -/
/-- the good words of the tables -/
def ga_Gl : List Cond := lw_tbl.filter goodWord
theorem ga_Gl_good : ∀ w ∈ ga_Gl, goodWord w = true := fun _ h => (List.mem_filter.mp h).2
theorem ga_Gl_of {w : Cond} (h : w ∈ lw_tbl) (g : goodWord w = true) : w ∈ ga_Gl := List.mem_filter.mpr ⟨h, g⟩
theorem ga_t {w : Cond} (i : Nat) (h : tables_1[i]? = some w) (g : goodWord w = true) : w ∈ ga_Gl := ga_Gl_of (List.mem_append_right _ (List.mem_of_getElem? h)) g
theorem ga_p {w : Cond} (i : Nat) (h : (k2_sels lw_privs)[i]? = some w) (g : goodWord w = true) : w ∈ ga_Gl := ga_Gl_of (List.mem_append_left _ (List.mem_of_getElem? h)) g
/-- what is fixed over the run: classes and slots, the array classes (int, boolean, long, int[], Row), the heap's size at the start -/
abbrev ga_E : Type := va_G × (ClassId × ClassId × ClassId × ClassId × ClassId) × Nat
abbrev ga_cI (E : ga_E) : ClassId := E.2.1.1
abbrev ga_cZ (E : ga_E) : ClassId := E.2.1.2.1
abbrev ga_cJ (E : ga_E) : ClassId := E.2.1.2.2.1
abbrev ga_cII (E : ga_E) : ClassId := E.2.1.2.2.2.1
abbrev ga_cR (E : ga_E) : ClassId := E.2.1.2.2.2.2
abbrev ga_N0 (E : ga_E) : Nat := E.2.2
def ga_Tys (E : ga_E) : List (ClassId × FieldType) := [(ga_cI E, .int), (ga_cZ E, .boolean), (ga_cJ E, .long), (ga_cII E, .array .int), (ga_cR E, .object RX6)]
def ga_A (E : ga_E) : Nat → Prop := fun q => ga_N0 E ≤ q
/-- the picture: a cell by its address -/
abbrev ga_H : Type := Nat → Option va_E
def ga_up (h : ga_H) (a : Nat) (c : va_E) : ga_H := fun q => if q = a then some c else h q
theorem ga_up_eq {h : ga_H} {a : Nat} {c : va_E} : ga_up h a c a = some c := if_pos rfl
theorem ga_up_ne {h : ga_H} {a b : Nat} {c : va_E} (n : b ≠ a) : ga_up h a c b = h b := if_neg n
theorem ga_up_up (h : ga_H) (a : Nat) (c d : va_E) : ga_up (ga_up h a c) a d = ga_up h a d := by
  funext q; unfold ga_up; by_cases e : q = a <;> simp [e]
theorem ga_up_self {h : ga_H} {a : Nat} {c : va_E} (e : h a = some c) : ga_up h a c = h := by
  funext q; unfold ga_up; by_cases e2 : q = a
  · subst e2; simp [e]
  · simp [e2]
theorem ga_up_comm (h : ga_H) {a b : Nat} (c d : va_E) (n : a ≠ b) : ga_up (ga_up h a c) b d = ga_up (ga_up h b d) a c := by
  funext q; unfold ga_up; by_cases e : q = b <;> by_cases e2 : q = a <;> simp [e, e2] <;> omega
/-- the heap holds the picture -/
def ga_C (E : ga_E) (h : ga_H) (H : Heap) : Prop := ∃ (L : List Nat) (f : Nat → va_E), (∀ a c, h a = some c → a ∈ L ∧ f a = c) ∧ va_P E.1 vwCl (va_pl L f) H ∧ va_D (ga_A E) (va_pl L f)
/-- fewer cells -/
theorem ga_C.sub {E : ga_E} {h h' : ga_H} {H : Heap} (hc : ga_C E h H) (hs : ∀ a c, h' a = some c → h a = some c) : ga_C E h' H := by
  obtain ⟨L, f, h1, h2, h3⟩ := hc
  exact ⟨L, f, fun a c e => h1 a c (hs a c e), h2, h3⟩
/-- a cell of the picture, by a place in a world -/
theorem ga_C.at {E : ga_E} {h : ga_H} {H : Heap} (hc : ga_C E h H) : ∃ (L : List Nat) (f : Nat → va_E), va_P E.1 vwCl (va_pl L f) H ∧ va_D (ga_A E) (va_pl L f) ∧ (∀ a c, h a = some c → ∃ k : Nat, (va_pl L f)[k]? = some (a, c)) ∧
    (∀ a c c' (H1 : Heap) (k : Nat), h a = some c → (va_pl L f)[k]? = some (a, c) → va_P E.1 vwCl ((va_pl L f).set k (a, c')) H1 → va_D (ga_A E) ((va_pl L f).set k (a, c')) → ga_C E (ga_up h a c') H1) ∧
    (∀ q c' (H1 : Heap), va_P E.1 vwCl (va_pl L f ++ [(q, c')]) H1 → va_D (ga_A E) (va_pl L f ++ [(q, c')]) → ga_C E (ga_up h q c') H1 ∧ h q = none) := by
  obtain ⟨L, f, h1, h2, h3⟩ := hc
  refine ⟨L, f, h2, h3, fun a c e => ?_, fun a c c' H1 k e hk hP hD => ?_, fun q c' H1 hP hD => ?_⟩
  · obtain ⟨k, hk⟩ := va_pl_get (X := []) (f := f) (h1 a c e).1
    rw [(h1 a c e).2] at hk
    exact ⟨k, hk⟩
  · have e1 : (va_pl L f).set k (a, c') = va_pl L (va_up f a c') := va_pl_set (X := []) h3 (h1 a c e).1 (by rw [(h1 a c e).2]; exact hk)
    rw [e1] at hP hD
    refine ⟨L, va_up f a c', fun b d hb => ?_, hP, hD⟩
    by_cases eb : b = a
    · subst eb
      rw [ga_up_eq] at hb
      cases hb
      exact ⟨(h1 b c e).1, if_pos rfl⟩
    · rw [ga_up_ne eb] at hb
      exact ⟨(h1 b d hb).1, (if_neg eb : va_up f a c' b = f b).trans (h1 b d hb).2⟩
  · have hq : q ∉ L := va_pl_fresh2 (X := []) hD
    rw [va_pl_push hq] at hP hD
    refine ⟨⟨L ++ [q], va_up f q c', fun b d hb => ?_, hP, hD⟩, ?_⟩
    · by_cases eb : b = q
      · subst eb
        rw [ga_up_eq] at hb
        cases hb
        exact ⟨by simp, if_pos rfl⟩
      · rw [ga_up_ne eb] at hb
        exact ⟨List.mem_append_left _ (h1 b d hb).1, (if_neg eb : va_up f q c' b = f b).trans (h1 b d hb).2⟩
    · cases e : h q with
      | none => rfl
      | some c => exact absurd (h1 q c e).1 hq
/-- the places of locals: what each is known to hold -/
def ga_L (ls : Array Slot) (nL : Nat) (lv : List (Option Value)) : Prop := ls.size = nL ∧ lv_wf ls ∧ ∀ (i : Nat) (v : Value), lv[i]? = some (some v) → ls[i]? = some (.val v)
theorem ga_L.has {ls : Array Slot} {nL i : Nat} {lv : List (Option Value)} {v : Value} (h : ga_L ls nL lv) (e : lv[i]? = some (some v)) : lv_has ls nL [(i, v)] := ⟨h.1, h.2.1, fun q hq => by
  rcases List.mem_singleton.mp hq with rfl
  exact h.2.2 i v e⟩
/-- no long reaches into place i -/
def ga_nl (lv : List (Option Value)) : Nat → Bool
  | 0 => true
  | i + 1 => match lv[i]? with
    | some (some v) => v.category == 1
    | _ => true
theorem ga_nl_s {lv : List (Option Value)} {i : Nat} {v : Value} (h : ga_nl lv (i + 1) = true) (e : lv[i]? = some (some v)) : v.category = 1 := by
  simp only [ga_nl, e, beq_iff_eq] at h
  exact h
theorem ga_L.st1 {ls : Array Slot} {nL i : Nat} {lv : List (Option Value)} {v : Value} (h : ga_L ls nL lv) (hi : i < nL) (hc : v.category = 1) (hn : ga_nl lv i = true) : ∃ ls', storeLocals ls i v = some ls' ∧ ga_L ls' nL (lv.set i (some v)) := by
  obtain ⟨ls', e, h'⟩ := lv_store1 (l := []) ⟨h.1, h.2.1, fun q hq => by cases hq⟩ hi hc
  refine ⟨ls', e, h'.1, h'.2.1, fun j w hw => ?_⟩
  by_cases ej : j = i
  · subst ej
    have hl : j < lv.length := by
      have := (List.getElem?_eq_some_iff.mp hw).1
      simpa using this
    rw [List.getElem?_set_self hl] at hw
    cases hw
    exact h'.2.2 (j, v) List.mem_cons_self
  · rw [List.getElem?_set_ne (fun q => ej q.symm)] at hw
    obtain ⟨ls2, e2, h2⟩ := lv_store1 (l := [(j, w)]) (h.has hw) hi hc
    cases e.symm.trans e2
    refine h2.2.2 (j, w) (List.mem_cons_of_mem _ (List.mem_filter.mpr ⟨List.mem_singleton.mpr rfl, ?_⟩))
    have : ¬ (j + 1 = i ∧ w.category = 2) := by
      rintro ⟨e3, e4⟩
      subst e3
      have := ga_nl_s hn hw
      omega
    simp only [Bool.and_eq_true, Bool.not_eq_true', beq_eq_false_iff_ne, Bool.and_eq_false_iff, ne_eq]
    refine ⟨ej, ?_⟩
    by_cases e5 : j + 1 = i
    · exact Or.inr (fun q => this ⟨e5, q⟩)
    · exact Or.inl e5
theorem ga_L.st2 {ls : Array Slot} {nL i : Nat} {lv : List (Option Value)} {v : Value} (h : ga_L ls nL lv) (hi : i + 1 < nL) (hc : v.category = 2) (hn : ga_nl lv i = true) : ∃ ls', storeLocals ls i v = some ls' ∧ ga_L ls' nL ((lv.set i (some v)).set (i + 1) none) := by
  obtain ⟨ls', e, h'⟩ := lv_store2 (l := []) ⟨h.1, h.2.1, fun q hq => by cases hq⟩ hi hc
  refine ⟨ls', e, h'.1, h'.2.1, fun j w hw => ?_⟩
  by_cases ek : j = i + 1
  · subst ek
    by_cases hl : i + 1 < (lv.set i (some v)).length
    · rw [List.getElem?_set_self hl] at hw
      cases hw
    · rw [List.getElem?_eq_none (by rw [List.length_set]; omega)] at hw
      cases hw
  rw [List.getElem?_set_ne (fun q => ek q.symm)] at hw
  by_cases ej : j = i
  · subst ej
    have hl : j < lv.length := by
      have := (List.getElem?_eq_some_iff.mp hw).1
      simpa using this
    rw [List.getElem?_set_self hl] at hw
    cases hw
    exact h'.2.2 (j, v) List.mem_cons_self
  · rw [List.getElem?_set_ne (fun q => ej q.symm)] at hw
    obtain ⟨ls2, e2, h2⟩ := lv_store2 (l := [(j, w)]) (h.has hw) hi hc
    cases e.symm.trans e2
    refine h2.2.2 (j, w) (List.mem_cons_of_mem _ (List.mem_filter.mpr ⟨List.mem_singleton.mpr rfl, ?_⟩))
    have : ¬ (j + 1 = i ∧ w.category = 2) := by
      rintro ⟨e3, e4⟩
      subst e3
      have := ga_nl_s hn hw
      omega
    simp only [Bool.and_eq_true, Bool.not_eq_true', beq_eq_false_iff_ne, Bool.and_eq_false_iff, ne_eq]
    refine ⟨ej, ek, ?_⟩
    by_cases e5 : j + 1 = i
    · exact Or.inr (fun q => this ⟨e5, q⟩)
    · exact Or.inl e5
theorem ga_L.weaken {ls : Array Slot} {nL : Nat} {lv lv' : List (Option Value)} (h : ga_L ls nL lv) (hw : ∀ (i : Nat) (v : Value), lv'[i]? = some (some v) → lv[i]? = some (some v)) : ga_L ls nL lv' := ⟨h.1, h.2.1, fun i v e => h.2.2 i v (hw i v e)⟩
/-- the locals at a method's entry -/
def ga_args : List Value → List (Option Value)
  | [] => []
  | v :: vs => match v with
    | .long _ => some v :: none :: ga_args vs
    | .double _ => some v :: none :: ga_args vs
    | _ => some v :: ga_args vs
theorem ga_args_in : ∀ (vs : List Value) (o i : Nat) (v : Value), (ga_args vs)[i]? = some (some v) → (o + i, v) ∈ lv_args o vs
  | [], o, i, v, h => by simp [ga_args] at h
  | w :: vs, o, i, v, h => by
    have two : w.category = 2 → ga_args (w :: vs) = some w :: none :: ga_args vs := by
      intro hw; cases w <;> first | rfl | (simp [Value.category] at hw)
    have one : ¬ w.category = 2 → ga_args (w :: vs) = some w :: ga_args vs := by
      intro hw; cases w <;> first | rfl | (simp [Value.category] at hw)
    by_cases hw : w.category = 2
    · rw [two hw] at h
      show _ ∈ (o, w) :: lv_args (if w.category = 2 then o + 2 else o + 1) vs
      rw [if_pos hw]
      match i, h with
      | 0, h => cases h; exact List.mem_cons_self
      | 1, h => cases h
      | i + 2, h =>
        have := ga_args_in vs (o + 2) i v h
        rw [show o + (i + 2) = o + 2 + i by omega]
        exact List.mem_cons_of_mem _ this
    · rw [one hw] at h
      show _ ∈ (o, w) :: lv_args (if w.category = 2 then o + 2 else o + 1) vs
      rw [if_neg hw]
      match i, h with
      | 0, h => cases h; exact List.mem_cons_self
      | i + 1, h =>
        have := ga_args_in vs (o + 1) i v h
        rw [show o + (i + 1) = o + 1 + i by omega]
        exact List.mem_cons_of_mem _ this
theorem ga_L.entry (vs : List Value) {n k : Nat} (h : (lg_sl vs).length ≤ n) : ga_L ((lg_sl vs ++ List.replicate (n - (lg_sl vs).length) Slot.unset).toArray) n (ga_args vs ++ List.replicate k none) := by
  obtain ⟨h1, h2, h3⟩ := lv_entry vs h
  refine ⟨h1, h2, fun i v e => ?_⟩
  have : (ga_args vs)[i]? = some (some v) := by
    by_cases hl : i < (ga_args vs).length
    · rw [List.getElem?_append_left hl] at e; exact e
    · rw [List.getElem?_append_right (by omega)] at e
      have := List.mem_of_getElem? e
      have := (List.mem_replicate.mp this).2
      cases this
  have := h3 _ (ga_args_in vs 0 i v this)
  rwa [Nat.zero_add] at this
/-- what the statement says of texts, of casts among the exceptions, of Throwable's statics -/
def ga_txt : List (Nat × String) := [(65, "no such factor"), (72, "powers are 0 .. 6"), (83, "below is 0 modulo 32003"), (98, "powers are 0 .. 10"), (198, "the answers are not known"), (201, "powers are 0 .. 12"), (136, "no such answer"), (158, "n is 0 .. 300"), (173, "an end is 0 or 1"), (178, "powers are 0 .. 18")]
def ga_exc : List String := ["java/lang/ArrayIndexOutOfBoundsException", "java/lang/ArithmeticException", "java/lang/IllegalArgumentException", "java/lang/IllegalStateException"]
def ga_pas : List (String × String) := [("java/lang/IllegalArgumentException", "java/lang/ArrayIndexOutOfBoundsException"), ("java/lang/ArithmeticException", "java/lang/ArrayIndexOutOfBoundsException"), ("java/lang/ArithmeticException", "java/lang/IllegalArgumentException"), ("java/lang/IllegalArgumentException", "java/lang/IllegalStateException")]
def ga_dcl : List String := ["java/lang/IndexOutOfBoundsException", "java/lang/RuntimeException", "java/lang/Exception", "java/lang/Throwable"]
def ga_Str (s : State) : Prop := (∀ q ∈ ga_txt, ∃ sa : Nat, vk_R "RecurrenceAnswers" q.1 q.2 sa s) ∧ (∀ x ∈ ga_exc, va_Nw (.castable x x) s) ∧ (∀ q ∈ ga_pas, va_Nc q.1 q.2 s) ∧ ∀ x ∈ ga_dcl, va_Nw (.declares (Bundle.initS x)) s
theorem ga_Str.warm {s U : State} (hW : s.WarmedH U.vm) (h : ga_Str s) : ga_Str U := ⟨fun q hq => (h.1 q hq).elim (fun sa z => ⟨sa, vk_R.warm hW z⟩), fun x hx => va_Nw.warmC hW (h.2.1 x hx), fun q hq => va_Nc.moved hW.alike (h.2.2.1 q hq), fun x hx => va_Nw.warmD hW (h.2.2.2 x hx)⟩
theorem ga_Str.same {s U : State} (e : s.vm = U.vm) (h : ga_Str s) : ga_Str U := ⟨fun q hq => (h.1 q hq).elim (fun sa z => ⟨sa, vk_R.same e.symm z⟩), fun x hx => va_Nw.same rfl e (h.2.1 x hx), fun q hq => va_Nc.moved (e ▸ Vm.Alike.refl s.vm) (h.2.2.1 q hq), fun x hx => va_Nw.same rfl e (h.2.2.2 x hx)⟩
def ga_Stc (E : ga_E) (s : State) (H : Heap) : Prop := vx_Zq Bundle.tN "UNASSIGNED_STACK" Bundle.steD (ga_A E) s H ∧ vx_Zq Bundle.tN "SUPPRESSED_SENTINEL" Bundle.listD (ga_A E) s H
theorem ga_Stc.moved {E : ga_E} {u U : State} {H : Heap} (hvm : u.vm.Alike U.vm) (h : ga_Stc E u H) : ga_Stc E U H := ⟨vx_Zq.moved hvm h.1, vx_Zq.moved hvm h.2⟩
theorem ga_Stc.kept {E : ga_E} {U : State} {H H1 : Heap} (h : ga_Stc E U H) (hq : ∀ a : Nat, a < H.size → ¬ ga_A E a → H1[a]? = H[a]?) : ga_Stc E U H1 := ⟨vx_Zq.kept h.1 hq, vx_Zq.kept h.2 hq⟩
theorem va_AOA.moved {ty : FieldType} {u U : State} (hvm : u.vm.Alike U.vm) (h : va_AOA ty u) : va_AOA ty U := by
  obtain ⟨comp, c, k, h1, h2, h3, h4, h5⟩ := arrayOverA_spec h
  obtain ⟨k', hk', he⟩ := hvm.2.2 _ _ h3
  have hi : (U.vm.classes.findIdx? fun (x : Class) => match x.kind with | .array component _ => component == comp | _ => false) = some c := by
    have e1 := va_idx_bare U.vm comp
    have e2 := va_idx_bare u.vm comp
    have e3 : U.vm.bare = u.vm.bare := by first | exact hvm.bare_eq | exact hvm.bare_eq.symm
    rw [e3] at e1
    exact (e1.symm.trans e2).trans h2
  have hkind : k'.kind = .array comp (.array ty) := by rw [he]; exact h4
  have f1 : U.vm.findClass (FieldType.array ty).toString = some comp := by rw [hvm.findClass]; exact h1
  have f2 : U.vm.findClass ("[" ++ (FieldType.array ty).toString) = some c := by rw [hvm.findClass]; exact h5
  unfold va_AOA Cond.before Cond.holds
  simp only [Cond.value]
  rw [f1, Option.bind_some]
  refine (congrArg (fun o : Option Nat => (o.bind (fun c => (U.vm.classes[c]?).map fun (k : Class) => match k.kind with | .array _ t => decide (t = FieldType.array ty) && decide (U.vm.findClass ("[" ++ (FieldType.array ty).toString) = some c) | _ => false) == some true)) hi).trans ?_
  simp [hk', hkind, f2]
