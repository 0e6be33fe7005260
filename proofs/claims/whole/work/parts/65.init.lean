/-! Rules for the making of objects -/
section BK
variable {l : Launch} {E : ga_E} {M : ga_M} {R : Room} {Z : List Frame → Array Value → State → State → Prop} {pc : Nat} {lv : List (Option Value)} {st : List Value} {h : ga_H} {cells slots : Nat}
theorem gr_mna {index N K : Nat} (hd : decode M.2.1 pc = .ok (.multianewarray index 2, 4)) (hw : Cond.classLink M.1.cls index ("[" ++ (FieldType.array .int).toString) ∈ ga_Gl) (hN : N < 10000) (hK : K < 10000) (hcs : cells + (1 + N) ≤ R.cells ∧ slots + (N + N * K) ≤ R.slots)
    (k : ∀ (q : Nat) (r : Nat → Nat), Blk h (cat 1 (fun _ => q) r) (cat 1 (fun _ => ga_ii E N (fun i => if i < N then some (r i) else none)) (fun _ => ga_i E K (fun _ => 0))) (1 + N) (ga_up (ga_ov h r (fun _ => ga_i E K (fun _ => 0)) N) q (ga_ii E N (fun i => if i < N then some (r i) else none))) → ga_G l E M R Z (pc + 4) lv (.ref q :: st) (ga_up (ga_ov h r (fun _ => ga_i E K (fun _ => 0)) N) q (ga_ii E N (fun i => if i < N then some (r i) else none))) (cells + 1 + N) (slots + N + N * K)) : ga_G l E M R Z pc lv (.int (nI K) :: .int (nI N) :: st) h cells slots := by
  intro p e s m args below meth c H locs ls X hc hS hl
  obtain ⟨L, f, h1, hP, hD⟩ := hc
  refine va_mna (X := []) (L := L) (f := f) (ty := .int) (cy := ga_cI E) (N' := N) (K' := K) (z := (K, .inl (fun _ => 0))) X.1 X.2.1 X.2.2.2.2.2.2.1 (X.2.2.2.2.2.2.2.1 _ hw) X.2.2.2.2.2.2.2.2.2.1.2.2.2.1 (X.2.2.2.2.2.2.2.1 _ ac_int) (X.2.2.2.2.2.2.2.2.2.1.1.2 0 _ rfl).2 X.2.2.2.2.2.2.2.2.2.1.1 hP hD hS (fun q hq => Nat.le_trans X.2.2.2.2.2.2.2.2.1 hq) (nI_pos (by omega)) (nI_pos (by omega)) (nI_clamp (by omega)) (nI_clamp (by omega)) (by omega) (Nat.le_trans (Nat.mul_le_mul (Nat.le_of_lt hK) (by decide : componentBytes .int ≤ 8)) (by decide)) (by omega) rfl rfl hcs.1 hcs.2 (fun c => by
    rw [vp_cell_i]
    show ({ cls := c, slots := Array.replicate K (.int 0), vm := .none } : Cell) = _
    rw [arrV_new]) hd (fun q r cA H1 hinj hrL hK1 hP1 hD1 hS1 => ?_)
  have e1 := (hK1.2 5 (cA, .array .int) rfl).2
  have e2 := (X.2.2.2.2.2.2.2.2.2.1.1.2 3 _ rfl).2
  have e3 : cA = ga_cII E := Option.some.inj (e1.symm.trans e2)
  subst e3
  have hqL : q ∉ L ++ (List.range N).map r := fun hq => by
    obtain ⟨k9, hk9⟩ := va_pl_get (X := []) (f := vr_up f ((List.range N).map r) (.inl (ga_cI E, K, .inl (fun _ => 0)))) hq
    have := hD1.1 0 (k9 + 1) _ _ rfl hk9 rfl
    omega
  have hqN : h q = none := by
    cases e : h q with
    | none => rfl
    | some c => exact absurd (List.mem_append_left _ (h1 q c e).1) hqL
  have hrN : ∀ i, i < N → h (r i) = none := fun i hi => by
    cases e : h (r i) with
    | none => rfl
    | some c => exact absurd (h1 _ c e).1 (hrL i hi)
  have hrm : ∀ i, i < N → r i ∈ (List.range N).map r := fun i hi => List.mem_map.mpr ⟨i, List.mem_range.mpr hi, rfl⟩
  have hrq : ∀ i, i < N → r i ≠ q := fun i hi z => hqL (List.mem_append_right _ (z ▸ hrm i hi))
  have hov : ∀ a, a ∉ (List.range N).map r → ga_ov h r (fun _ => ga_i E K (fun _ => 0)) N a = h a := fun a ha => ga_ov_out (fun k hk z => ha (z ▸ hrm k hk))
  have hB : Blk h (cat 1 (fun _ => q) r) (cat 1 (fun _ => ga_ii E N (fun i => if i < N then some (r i) else none)) (fun _ => ga_i E K (fun _ => 0))) (1 + N) (ga_up (ga_ov h r (fun _ => ga_i E K (fun _ => 0)) N) q (ga_ii E N (fun i => if i < N then some (r i) else none))) := by
    refine Blk.mk (fun i j hi hj e => ?_) (fun k hk => ?_) (fun k hk => ?_) (fun a ha => ?_)
    · by_cases a1 : i < 1 <;> by_cases a2 : j < 1
      · omega
      · rw [cat_lt a1, cat_ge (by omega)] at e; exact absurd e.symm (hrq _ (by omega))
      · rw [cat_ge (by omega), cat_lt a2] at e; exact absurd e (hrq _ (by omega))
      · rw [cat_ge (by omega), cat_ge (by omega)] at e
        have := hinj _ _ (by omega) (by omega) e
        omega
    · by_cases a1 : k < 1
      · rw [cat_lt a1]; exact hqN
      · rw [cat_ge (by omega)]; exact hrN _ (by omega)
    · by_cases a1 : k < 1
      · rw [cat_lt a1, cat_lt a1, ga_up_eq]
      · rw [cat_ge (by omega), cat_ge (by omega), ga_up_ne (hrq _ (by omega))]; exact ga_ov_at hinj (by omega)
    · rw [ga_up_ne (by have := ha 0 (by omega); rwa [cat_lt (by omega)] at this)]
      exact ga_ov_out (fun k hk => by have := ha (1 + k) (by omega); rwa [cat_ge (by omega), show 1 + k - 1 = k by omega] at this)
  have hpl : ∀ x : va_E, [(q, x)] ++ va_pl (L ++ (List.range N).map r) (vr_up f ((List.range N).map r) (.inl (ga_cI E, K, .inl (fun _ => 0)))) = va_pl (q :: (L ++ (List.range N).map r)) (va_up (vr_up f ((List.range N).map r) (.inl (ga_cI E, K, .inl (fun _ => 0)))) q x) := fun x => by
    show (q, x) :: List.map _ _ = (q, va_up _ q x q) :: List.map _ _
    rw [va_us]
    exact congrArg _ (List.map_congr_left (fun a ha => by rw [va_un (fun z : a = q => hqL (by rw [← z]; exact ha))]))
  rw [List.nil_append, hpl] at hP1 hD1
  refine k q r hB p e s m args below meth c H1 locs ls X ⟨_, _, fun a c9 ha => ?_, hP1, hD1⟩ hS1 hl
  by_cases ea : a = q
  · subst ea
    rw [ga_up_eq] at ha
    cases ha
    exact ⟨List.mem_cons_self .., va_us⟩
  · rw [ga_up_ne ea] at ha
    rw [va_un ea]
    by_cases er : a ∈ (List.range N).map r
    · refine ⟨List.mem_cons_of_mem _ (List.mem_append_right _ er), ?_⟩
      rw [vr_up_in er]
      obtain ⟨i, hi, rfl⟩ := List.mem_map.mp er
      rw [ga_ov_at hinj (List.mem_range.mp hi)] at ha
      exact Option.some.inj ha
    · rw [hov a er] at ha
      exact ⟨List.mem_cons_of_mem _ (List.mem_append_left _ (h1 a c9 ha).1), by rw [vr_up_ne er]; exact (h1 a c9 ha).2⟩
variable {h0 : ga_H} {ZZ : Nat → Nat} {cc : Nat → va_E} {n : Nat}
theorem bk_newI {len : Nat} (hB : Blk h0 ZZ cc n h) (hd : decode M.2.1 pc = .ok (.newarray .int, 2)) (hn : len < 10000) (hcs : cells + 1 ≤ R.cells ∧ slots + len ≤ R.slots)
    (k : ∀ (q : Nat) (H' : ga_H), Blk h0 (va_up ZZ n q) (va_up cc n (ga_i E len (fun _ => 0))) (n + 1) H' → ga_G l E M R Z (pc + 2) lv (.ref q :: st) H' (cells + 1) (slots + len)) : ga_G l E M R Z pc lv (.int (nI len) :: st) h cells slots :=
  gr_newI hd ac_int hn hcs (fun q hq => k q _ (hB.push hq _))
theorem bk_newZ {len : Nat} (hB : Blk h0 ZZ cc n h) (hd : decode M.2.1 pc = .ok (.newarray .boolean, 2)) (hn : len < 10000) (hcs : cells + 1 ≤ R.cells ∧ slots + len ≤ R.slots)
    (k : ∀ (q : Nat) (H' : ga_H), Blk h0 (va_up ZZ n q) (va_up cc n (ga_z E len (fun _ => 0))) (n + 1) H' → ga_G l E M R Z (pc + 2) lv (.ref q :: st) H' (cells + 1) (slots + len)) : ga_G l E M R Z pc lv (.int (nI len) :: st) h cells slots :=
  gr_newZ hd ac_boolean hn hcs (fun q hq => k q _ (hB.push hq _))
theorem bk_newR {index len : Nat} (hB : Blk h0 ZZ cc n h) (hd : decode M.2.1 pc = .ok (.anewarray index, 3)) (hw : Cond.classLink M.1.cls index RX6 ∈ ga_Gl) (hn : len < 10000) (hcs : cells + 1 ≤ R.cells ∧ slots + len ≤ R.slots)
    (k : ∀ (q : Nat) (H' : ga_H), Blk h0 (va_up ZZ n q) (va_up cc n (ga_rr E len (fun _ => none))) (n + 1) H' → ga_G l E M R Z (pc + 3) lv (.ref q :: st) H' (cells + 1) (slots + len)) : ga_G l E M R Z pc lv (.int (nI len) :: st) h cells slots :=
  gr_newR hd hw hn hcs (fun q hq => k q _ (hB.push hq _))
theorem bk_mna {index N K : Nat} (hB : Blk h0 ZZ cc n h) (hd : decode M.2.1 pc = .ok (.multianewarray index 2, 4)) (hw : Cond.classLink M.1.cls index ("[" ++ (FieldType.array .int).toString) ∈ ga_Gl) (hN : N < 10000) (hK : K < 10000) (hcs : cells + (1 + N) ≤ R.cells ∧ slots + (N + N * K) ≤ R.slots)
    (k : ∀ (q : Nat) (r : Nat → Nat) (H' : ga_H), Blk h0 (cat n ZZ (cat 1 (fun _ => q) r)) (cat n cc (cat 1 (fun _ => ga_ii E N (fun i => if i < N then some (r i) else none)) (fun _ => ga_i E K (fun _ => 0)))) (n + (1 + N)) H' → ga_G l E M R Z (pc + 4) lv (.ref q :: st) H' (cells + 1 + N) (slots + N + N * K)) : ga_G l E M R Z pc lv (.int (nI K) :: .int (nI N) :: st) h cells slots :=
  gr_mna hd hw hN hK hcs (fun q r hA => k q r _ (hB.app hA))
theorem bk_putf {index ci a N : Nat} {C : String} {T : u_T} {ty : Nat → FieldType} {fs : List Value} {v : Value} (hB : Blk h0 ZZ cc n h) (hd : decode M.2.1 pc = .ok (.putfield index, 3)) (hcl : ga_cls ci C T N ty) (k : Nat) (hk : k < N) (hw : Cond.fieldLink M.1.cls index (T k).1 (T k).2.1 (T k).2.2.1 ∈ ga_Gl) (hfin : (T k).2.2.2 = false) (hn : narrow (ty k) v = v) (hfit : fits (ty k) v = true) (hlen : k < fs.length) (i : Nat) (hi : i < n) (ha : ZZ i = a) (hc : cc i = ga_o ci fs)
    (kk : ∀ H' : ga_H, Blk h0 ZZ (va_up cc i (ga_o ci (fs.set k v))) n H' → ga_G l E M R Z (pc + 3) lv st H' cells slots) : ga_G l E M R Z pc lv (v :: .ref a :: st) h cells slots := by
  subst ha
  exact gr_putf hd hcl k hk hw hfin hn hfit hlen ((hB.at hi).trans (congrArg some hc)) (kk _ (hB.put hi _))
theorem bk_putF {index ci a N : Nat} {C : String} {T : u_T} {ty : Nat → FieldType} {fs : List Value} {v : Value} (hB : Blk h0 ZZ cc n h) (hd : decode M.2.1 pc = .ok (.putfield index, 3)) (hcl : ga_cls ci C T N ty) (k : Nat) (hk : k < N) (hw : Cond.fieldLink M.1.cls index (T k).1 (T k).2.1 (T k).2.2.1 ∈ ga_Gl) (hfin : (T k).2.2.2 = true ∧ M.1.name = "<init>" ∧ (T k).1 = M.1.cls) (hn : narrow (ty k) v = v) (hfit : fits (ty k) v = true) (hlen : k < fs.length) (i : Nat) (hi : i < n) (ha : ZZ i = a) (hc : cc i = ga_o ci fs)
    (kk : ∀ H' : ga_H, Blk h0 ZZ (va_up cc i (ga_o ci (fs.set k v))) n H' → ga_G l E M R Z (pc + 3) lv st H' cells slots) : ga_G l E M R Z pc lv (v :: .ref a :: st) h cells slots := by
  subst ha
  exact gr_putF hd hcl k hk hw hfin.1 hfin.2.1 hfin.2.2 hn hfit hlen ((hB.at hi).trans (congrArg some hc)) (kk _ (hB.put hi _))
theorem bk_aastR {a b j len : Nat} {f : Nat → Option Nat} {vs : List Value} (hB : Blk h0 ZZ cc n h) (hd : decode M.2.1 pc = .ok (.aastore, 1)) (hj : j < len) (hn : len < 2 ^ 31) (i : Nat) (hi : i < n) (ha : ZZ i = a) (hc : cc i = ga_rr E len f) (i2 : Nat) (hi2 : i2 < n) (hb : ZZ i2 = b) (hc2 : cc i2 = ga_o 6 vs)
    (kk : ∀ H' : ga_H, Blk h0 ZZ (va_up cc i (ga_rr E len (va_up f j (some b)))) n H' → ga_G l E M R Z (pc + 1) lv st H' cells slots) : ga_G l E M R Z pc lv (.ref b :: .int (nI j) :: .ref a :: st) h cells slots := by
  subst ha
  subst hb
  exact gr_aastoreR hd ((hB.at hi).trans (congrArg some hc)) ((hB.at hi2).trans (congrArg some hc2)) hj hn (kk _ (hB.put hi _))
theorem bk_getf {index ci a N : Nat} {C : String} {T : u_T} {ty : Nat → FieldType} {fs : List Value} {v : Value} (hB : Blk h0 ZZ cc n h) (hd : decode M.2.1 pc = .ok (.getfield index, 3)) (hcl : ga_cls ci C T N ty) (k : Nat) (hk : k < N) (hw : Cond.fieldLink M.1.cls index (T k).1 (T k).2.1 (T k).2.2.1 ∈ ga_Gl) (i : Nat) (hi : i < n) (ha : ZZ i = a) (hc : cc i = ga_o ci fs) (hv : fs[k]? = some v)
    (kk : ga_G l E M R Z (pc + 3) lv (v :: st) h cells slots) : ga_G l E M R Z pc lv (.ref a :: st) h cells slots := by
  subst ha
  exact gr_getf hd hcl k hk hw ((hB.at hi).trans (congrArg some hc)) hv kk
theorem bk_newO {index ci N : Nat} {C : String} {T : u_T} {ty : Nat → FieldType} {fs : List Value} (hd : decode M.2.1 pc = .ok (.new index, 3)) (hcl : ga_cls ci C T N ty) (hw : Cond.classLink M.1.cls index C ∈ ga_Gl ∧ Cond.instantiable C N ∈ ga_Gl ∧ Cond.initialized C ∈ ga_Gl) (hfs : ∀ j, j < N → defaultValue (ty j) = vp_V fs j) (hcs : cells + 1 ≤ R.cells ∧ slots + N ≤ R.slots)
    (k : ∀ q : Nat, h q = none → ga_G l E M R Z (pc + 3) lv (.ref q :: st) (ga_up h q (ga_o ci fs)) (cells + 1) (slots + N)) : ga_G l E M R Z pc lv st h cells slots := gr_newO hd hcl hw hfs hcs k
end BK
def lz (l : List Nat) : Nat → Nat := fun k => l.getD k 0
def lc (l : List va_E) : Nat → va_E := fun k => l.getD k (ga_o 0 [])
theorem getD_l {α : Type} {l l2 : List α} {k : Nat} {d : α} (h : k < l.length) : (l ++ l2).getD k d = l.getD k d := by
  rw [List.getD_eq_getElem?_getD, List.getD_eq_getElem?_getD, List.getElem?_append_left h]
theorem getD_r {α : Type} {l l2 : List α} {k : Nat} {d : α} (h : l.length ≤ k) : (l ++ l2).getD k d = l2.getD (k - l.length) d := by
  rw [List.getD_eq_getElem?_getD, List.getD_eq_getElem?_getD, List.getElem?_append_right h]
theorem getD_m {α : Type} (f : Nat → α) {m k : Nat} {d : α} (h : k < m) : ((List.range m).map f).getD k d = f k := by
  rw [List.getD_eq_getElem?_getD, List.getElem?_map, List.getElem?_range h]; rfl
def BkL (h : ga_H) (zl : List Nat) (cl : List va_E) (H : ga_H) : Prop := cl.length = zl.length ∧ Blk h (lz zl) (lc cl) zl.length H
theorem BkL.app {h H H' : ga_H} {zl : List Nat} {cl : List va_E} {A : Nat → Nat} {d : Nat → va_E} {m : Nat} (hB : BkL h zl cl H) (hA : Blk H A d m H') : BkL h (zl ++ (List.range m).map A) (cl ++ (List.range m).map d) H' := by
  refine ⟨by simp [hB.1], ?_⟩
  rw [List.length_append, List.length_map, List.length_range]
  refine (hB.2.app hA).congr (fun k hk => ?_) (fun k hk => ?_)
  · by_cases c : k < zl.length
    · rw [cat_lt c]; exact getD_l c
    · rw [cat_ge (by omega)]
      exact (getD_r (by omega)).trans (getD_m A (by omega))
  · by_cases c : k < zl.length
    · rw [cat_lt c]; exact getD_l (by rw [hB.1]; exact c)
    · rw [cat_ge (by omega)]
      refine (getD_r (by rw [hB.1]; omega)).trans ?_
      rw [hB.1]
      exact getD_m d (by omega)
theorem BkL.push {h H : ga_H} {zl : List Nat} {cl : List va_E} {q : Nat} (hB : BkL h zl cl H) (hq : H q = none) (x : va_E) : BkL h (zl ++ [q]) (cl ++ [x]) (ga_up H q x) := hB.app (Blk_1 hq x)
theorem BkL.put {h H : ga_H} {zl : List Nat} {cl : List va_E} {k : Nat} (hB : BkL h zl cl H) (hk : k < zl.length) (x : va_E) : BkL h zl (cl.set k x) (ga_up H (lz zl k) x) := by
  refine ⟨by rw [List.length_set]; exact hB.1, (hB.2.put hk x).congr (fun _ _ => rfl) (fun j hj => ?_)⟩
  unfold lc
  rw [List.getD_eq_getElem?_getD, List.getElem?_set]
  by_cases c : j = k
  · rw [c, va_us, if_pos rfl, if_pos (by rw [hB.1]; exact hk)]; rfl
  · rw [va_un c, if_neg (fun z => c z.symm)]
    exact (List.getD_eq_getElem?_getD ..).symm
theorem BkL_1 {h : ga_H} {q : Nat} (hq : h q = none) (x : va_E) : BkL h [q] [x] (ga_up h q x) := ⟨rfl, (Blk_1 hq x).congr (fun k hk => by rw [show k = 0 by have : k < 1 := hk; omega]; rfl) (fun k hk => by rw [show k = 0 by have : k < 1 := hk; omega]; rfl)⟩
section BL
variable {l : Launch} {E : ga_E} {M : ga_M} {R : Room} {Z : List Frame → Array Value → State → State → Prop} {pc : Nat} {lv : List (Option Value)} {st : List Value} {h : ga_H} {cells slots : Nat} {h0 : ga_H} {zl : List Nat} {cl : List va_E}
theorem bl_newI {len : Nat} (hB : BkL h0 zl cl h) (hd : decode M.2.1 pc = .ok (.newarray .int, 2)) (hn : len < 10000) (hcs : cells + 1 ≤ R.cells ∧ slots + len ≤ R.slots)
    (k : ∀ (q : Nat) (H' : ga_H), BkL h0 (zl ++ [q]) (cl ++ [ga_i E len (fun _ => 0)]) H' → ga_G l E M R Z (pc + 2) lv (.ref q :: st) H' (cells + 1) (slots + len)) : ga_G l E M R Z pc lv (.int (nI len) :: st) h cells slots :=
  gr_newI hd ac_int hn hcs (fun q hq => k q _ (hB.push hq _))
theorem bl_newR {index len : Nat} (hB : BkL h0 zl cl h) (hd : decode M.2.1 pc = .ok (.anewarray index, 3)) (hw : Cond.classLink M.1.cls index RX6 ∈ ga_Gl) (hn : len < 10000) (hcs : cells + 1 ≤ R.cells ∧ slots + len ≤ R.slots)
    (k : ∀ (q : Nat) (H' : ga_H), BkL h0 (zl ++ [q]) (cl ++ [ga_rr E len (fun _ => none)]) H' → ga_G l E M R Z (pc + 3) lv (.ref q :: st) H' (cells + 1) (slots + len)) : ga_G l E M R Z pc lv (.int (nI len) :: st) h cells slots :=
  gr_newR hd hw hn hcs (fun q hq => k q _ (hB.push hq _))
theorem bl_putf {index ci a N : Nat} {C : String} {T : u_T} {ty : Nat → FieldType} {fs : List Value} {v : Value} (hB : BkL h0 zl cl h) (hd : decode M.2.1 pc = .ok (.putfield index, 3)) (hcl : ga_cls ci C T N ty) (k : Nat) (hk : k < N) (hw : Cond.fieldLink M.1.cls index (T k).1 (T k).2.1 (T k).2.2.1 ∈ ga_Gl) (hfin : (T k).2.2.2 = false) (hn : narrow (ty k) v = v) (hfit : fits (ty k) v = true) (hlen : k < fs.length) (hi : 0 < zl.length) (ha : lz zl 0 = a) (hc : lc cl 0 = ga_o ci fs)
    (kk : ∀ H' : ga_H, BkL h0 zl (cl.set 0 (ga_o ci (fs.set k v))) H' → ga_G l E M R Z (pc + 3) lv st H' cells slots) : ga_G l E M R Z pc lv (v :: .ref a :: st) h cells slots := by
  subst ha
  exact gr_putf hd hcl k hk hw hfin hn hfit hlen ((hB.2.at hi).trans (congrArg some hc)) (kk _ (hB.put hi _))
theorem bl_putF {index ci a N : Nat} {C : String} {T : u_T} {ty : Nat → FieldType} {fs : List Value} {v : Value} (hB : BkL h0 zl cl h) (hd : decode M.2.1 pc = .ok (.putfield index, 3)) (hcl : ga_cls ci C T N ty) (k : Nat) (hk : k < N) (hw : Cond.fieldLink M.1.cls index (T k).1 (T k).2.1 (T k).2.2.1 ∈ ga_Gl) (hfin : (T k).2.2.2 = true ∧ M.1.name = "<init>" ∧ (T k).1 = M.1.cls) (hn : narrow (ty k) v = v) (hfit : fits (ty k) v = true) (hlen : k < fs.length) (hi : 0 < zl.length) (ha : lz zl 0 = a) (hc : lc cl 0 = ga_o ci fs)
    (kk : ∀ H' : ga_H, BkL h0 zl (cl.set 0 (ga_o ci (fs.set k v))) H' → ga_G l E M R Z (pc + 3) lv st H' cells slots) : ga_G l E M R Z pc lv (v :: .ref a :: st) h cells slots := by
  subst ha
  exact gr_putF hd hcl k hk hw hfin.1 hfin.2.1 hfin.2.2 hn hfit hlen ((hB.2.at hi).trans (congrArg some hc)) (kk _ (hB.put hi _))
theorem bl_getf {index ci a N : Nat} {C : String} {T : u_T} {ty : Nat → FieldType} {fs : List Value} {v : Value} (hB : BkL h0 zl cl h) (hd : decode M.2.1 pc = .ok (.getfield index, 3)) (hcl : ga_cls ci C T N ty) (k : Nat) (hk : k < N) (hw : Cond.fieldLink M.1.cls index (T k).1 (T k).2.1 (T k).2.2.1 ∈ ga_Gl) (hi : 0 < zl.length) (ha : lz zl 0 = a) (hc : lc cl 0 = ga_o ci fs) (hv : fs[k]? = some v)
    (kk : ga_G l E M R Z (pc + 3) lv (v :: st) h cells slots) : ga_G l E M R Z pc lv (.ref a :: st) h cells slots := by
  subst ha
  exact gr_getf hd hcl k hk hw ((hB.2.at hi).trans (congrArg some hc)) hv kk
theorem bl_aastR {a b j len : Nat} {f : Nat → Option Nat} {vs : List Value} (hB : BkL h0 zl cl h) (hd : decode M.2.1 pc = .ok (.aastore, 1)) (hj : j < len) (hn : len < 2 ^ 31) (i : Nat) (hi : i < zl.length) (ha : lz zl i = a) (hc : lc cl i = ga_rr E len f) (i2 : Nat) (hi2 : i2 < zl.length) (hb : lz zl i2 = b) (hc2 : lc cl i2 = ga_o 6 vs)
    (kk : ∀ H' : ga_H, BkL h0 zl (cl.set i (ga_rr E len (va_up f j (some b)))) H' → ga_G l E M R Z (pc + 1) lv st H' cells slots) : ga_G l E M R Z pc lv (.ref b :: .int (nI j) :: .ref a :: st) h cells slots := by
  subst ha
  subst hb
  exact gr_aastoreR hd ((hB.2.at hi).trans (congrArg some hc)) ((hB.2.at hi2).trans (congrArg some hc2)) hj hn (kk _ (hB.put hi _))
end BL

def z0 : Nat → zp := fun _ => 0
theorem f_z0 (E : ga_E) (n : Nat) : ga_i E n (fun _ => 0) = ga_f E n z0 := rfl

def rwC (E : ga_E) (A : Nat → Nat) : Nat → va_E
  | 0 => ga_o 6 [.ref (A 1), .int (nI 0)]
  | _ => ga_f E 169 z0
set_option maxHeartbeats 4000000 in
set_option maxRecDepth 100000 in
theorem c_X6_init (l : Launch) (E : ga_E) (d : Nat) (h : ga_H) (q : Nat) (hq : h q = none) : ga_Ok l E (d + 1) mX6_init [.ref q] (ga_up h q (ga_o 6 [.null, .int 0])) 1 169 (fun r0 h' => r0 = none ∧ ∃ A, A 0 = q ∧ Blk h A (rwC E A) 2 h') := by
  refine ga_Ok.of 0 _ (by decide) rfl (Nat.le_of_ble_eq_true rfl) rfl ?_
  have hB0 := Blk_1 hq (ga_o 6 [.null, .int 0])
  refine gr_aload_n dX6_init_0 rfl ?_
  refine gr_objInit dX6_init_1 ml_X6_3 ⟨by show 1 ≤ d + 1; omega, by show 64 ≤ 64 * (d + 1); omega⟩ (by decide) ?_
  refine gr_aload_n dX6_init_4 rfl ?_
  refine gr_sipush (v := nI 169) dX6_init_5 (by decide) ?_
  refine bk_newI hB0 dX6_init_8 (by decide) ⟨(Nat.le_of_ble_eq_true rfl), (Nat.le_of_ble_eq_true rfl)⟩ (fun q1 H1 hB1 => ?_)
  refine bk_putF hB1 dX6_init_10 cls_X6 0 (by decide) fl_X6_9 ⟨rfl, rfl, rfl⟩ rfl rfl (Nat.le_of_ble_eq_true rfl) 0 (by decide) rfl rfl (fun H2 hB2 => ?_)
  exact gr_return dX6_init_13 rfl (Nat.le_of_ble_eq_true rfl) (Nat.le_of_ble_eq_true rfl) ⟨rfl, _, rfl, hB2.congr (fun _ _ => rfl) (fun k hk => by rcases k with _ | _ | k <;> first | rfl | omega)⟩

def vlK (E : ga_E) (A : Nat → Nat) : Nat → va_E
  | 0 => ga_o 7 [.ref (A 1), .int (nI 0), .int (nI 0)]
  | _ => ga_f E 301 z0
set_option maxHeartbeats 4000000 in
set_option maxRecDepth 100000 in
theorem c_X7_init (l : Launch) (E : ga_E) (d : Nat) (h : ga_H) (q : Nat) (hq : h q = none) : ga_Ok l E (d + 1) mX7_init [.ref q] (ga_up h q (ga_o 7 [.null, .int 0, .int 0])) 1 301 (fun r0 h' => r0 = none ∧ ∃ A, A 0 = q ∧ Blk h A (vlK E A) 2 h') := by
  refine ga_Ok.of 0 _ (by decide) rfl (Nat.le_of_ble_eq_true rfl) rfl ?_
  have hB0 := Blk_1 hq (ga_o 7 [.null, .int 0, .int 0])
  refine gr_aload_n dX7_init_0 rfl ?_
  refine gr_objInit dX7_init_1 ml_X7_3 ⟨by show 1 ≤ d + 1; omega, by show 64 ≤ 64 * (d + 1); omega⟩ (by decide) ?_
  refine gr_aload_n dX7_init_4 rfl ?_
  refine gr_sipush (v := nI 301) dX7_init_5 (by decide) ?_
  refine bk_newI hB0 dX7_init_8 (by decide) ⟨(Nat.le_of_ble_eq_true rfl), (Nat.le_of_ble_eq_true rfl)⟩ (fun q1 H1 hB1 => ?_)
  refine bk_putF hB1 dX7_init_10 cls_X7 0 (by decide) fl_X7_9 ⟨rfl, rfl, rfl⟩ rfl rfl (Nat.le_of_ble_eq_true rfl) 0 (by decide) rfl rfl (fun H2 hB2 => ?_)
  exact gr_return dX7_init_13 rfl (Nat.le_of_ble_eq_true rfl) (Nat.le_of_ble_eq_true rfl) ⟨rfl, _, rfl, hB2.congr (fun _ _ => rfl) (fun k hk => by rcases k with _ | _ | k <;> first | rfl | omega)⟩

set_option maxHeartbeats 4000000 in
set_option maxRecDepth 100000 in
theorem c_X5_init (l : Launch) (E : ga_E) (d : Nat) (h : ga_H) (q : Nat) (hq : h q = none) : ga_Ok l E (d + 1) mX5_init [.ref q] (ga_up h q (ga_o 5 [.null, .null, .null, .null, .null, .null, .int 0])) 6 47 (fun r0 h' => r0 = none ∧ ∃ A, A 0 = q ∧ Blk h A (roC E A 0 z0 z0 z0 z0 z0 z0) 7 h') := by
  refine ga_Ok.of 0 _ (by decide) rfl (Nat.le_of_ble_eq_true rfl) rfl ?_
  have hB0 := Blk_1 hq (ga_o 5 [.null, .null, .null, .null, .null, .null, .int 0])
  refine gr_aload_n dX5_init_0 rfl ?_
  refine gr_objInit dX5_init_1 ml_X5_3 ⟨by show 1 ≤ d + 1; omega, by show 64 ≤ 64 * (d + 1); omega⟩ (by decide) ?_
  refine gr_aload_n dX5_init_4 rfl ?_
  refine gr_bipush (v := nI 6) dX5_init_5 (by decide) ?_
  refine bk_newI hB0 dX5_init_7 (by decide) ⟨(Nat.le_of_ble_eq_true rfl), (Nat.le_of_ble_eq_true rfl)⟩ (fun q1 H1 hB1 => ?_)
  refine bk_putF hB1 dX5_init_9 cls_X5 0 (by decide) fl_X5_9 ⟨rfl, rfl, rfl⟩ rfl rfl (Nat.le_of_ble_eq_true rfl) 0 (by decide) rfl rfl (fun H2 hB2 => ?_)
  refine gr_aload_n dX5_init_12 rfl ?_
  refine gr_bipush (v := nI 7) dX5_init_13 (by decide) ?_
  refine bk_newI hB2 dX5_init_15 (by decide) ⟨(Nat.le_of_ble_eq_true rfl), (Nat.le_of_ble_eq_true rfl)⟩ (fun q3 H3 hB3 => ?_)
  refine bk_putF hB3 dX5_init_17 cls_X5 1 (by decide) fl_X5_15 ⟨rfl, rfl, rfl⟩ rfl rfl (Nat.le_of_ble_eq_true rfl) 0 (by decide) rfl rfl (fun H4 hB4 => ?_)
  refine gr_aload_n dX5_init_20 rfl ?_
  refine gr_bipush (v := nI 7) dX5_init_21 (by decide) ?_
  refine bk_newI hB4 dX5_init_23 (by decide) ⟨(Nat.le_of_ble_eq_true rfl), (Nat.le_of_ble_eq_true rfl)⟩ (fun q5 H5 hB5 => ?_)
  refine bk_putF hB5 dX5_init_25 cls_X5 2 (by decide) fl_X5_18 ⟨rfl, rfl, rfl⟩ rfl rfl (Nat.le_of_ble_eq_true rfl) 0 (by decide) rfl rfl (fun H6 hB6 => ?_)
  refine gr_aload_n dX5_init_28 rfl ?_
  refine gr_bipush (v := nI 7) dX5_init_29 (by decide) ?_
  refine bk_newI hB6 dX5_init_31 (by decide) ⟨(Nat.le_of_ble_eq_true rfl), (Nat.le_of_ble_eq_true rfl)⟩ (fun q7 H7 hB7 => ?_)
  refine bk_putF hB7 dX5_init_33 cls_X5 3 (by decide) fl_X5_21 ⟨rfl, rfl, rfl⟩ rfl rfl (Nat.le_of_ble_eq_true rfl) 0 (by decide) rfl rfl (fun H8 hB8 => ?_)
  refine gr_aload_n dX5_init_36 rfl ?_
  refine gr_bipush (v := nI 7) dX5_init_37 (by decide) ?_
  refine bk_newI hB8 dX5_init_39 (by decide) ⟨(Nat.le_of_ble_eq_true rfl), (Nat.le_of_ble_eq_true rfl)⟩ (fun q9 H9 hB9 => ?_)
  refine bk_putF hB9 dX5_init_41 cls_X5 4 (by decide) fl_X5_24 ⟨rfl, rfl, rfl⟩ rfl rfl (Nat.le_of_ble_eq_true rfl) 0 (by decide) rfl rfl (fun H10 hB10 => ?_)
  refine gr_aload_n dX5_init_44 rfl ?_
  refine gr_bipush (v := nI 13) dX5_init_45 (by decide) ?_
  refine bk_newI hB10 dX5_init_47 (by decide) ⟨(Nat.le_of_ble_eq_true rfl), (Nat.le_of_ble_eq_true rfl)⟩ (fun q11 H11 hB11 => ?_)
  refine bk_putF hB11 dX5_init_49 cls_X5 5 (by decide) fl_X5_27 ⟨rfl, rfl, rfl⟩ rfl rfl (Nat.le_of_ble_eq_true rfl) 0 (by decide) rfl rfl (fun H12 hB12 => ?_)
  exact gr_return dX5_init_52 rfl (Nat.le_of_ble_eq_true rfl) (Nat.le_of_ble_eq_true rfl) ⟨rfl, _, rfl, hB12.congr (fun _ _ => rfl) (fun k hk => by rcases k with _ | _ | _ | _ | _ | _ | _ | k <;> first | rfl | omega)⟩

set_option maxHeartbeats 4000000 in
set_option maxRecDepth 100000 in
theorem c_X1_init (l : Launch) (E : ga_E) (d : Nat) (h : ga_H) (q : Nat) (hq : h q = none) (o : Nat) : ga_Ok l E (d + 1) mX1_init [.ref q, .int (nI o)] (ga_up h q (ga_o 3 [.int 0, .null, .null])) 7 51 (fun r0 h' => r0 = none ∧ ∃ A, A 0 = q ∧ Blk h A (eqC E A o (fun _ => z0) z0) 8 h') := by
  refine ga_Ok.of 0 _ (by decide) rfl (Nat.le_of_ble_eq_true rfl) rfl ?_
  have hB0 := Blk_1 hq (ga_o 3 [.int 0, .null, .null])
  refine gr_aload_n dX1_init_0 rfl ?_
  refine gr_objInit dX1_init_1 ml_X1_3 ⟨by show 1 ≤ d + 1; omega, by show 64 ≤ 64 * (d + 1); omega⟩ (by decide) ?_
  refine gr_aload_n dX1_init_4 rfl ?_
  refine gr_iconst (v := nI 5) dX1_init_5 rfl ?_
  refine gr_bipush (v := nI 7) dX1_init_6 (by decide) ?_
  refine bk_mna hB0 dX1_init_8 cl_X1_9 (by decide) (by decide) ⟨(Nat.le_of_ble_eq_true rfl), (Nat.le_of_ble_eq_true rfl)⟩ (fun q1 r1 H1 hB1 => ?_)
  refine bk_putF hB1 dX1_init_12 cls_X1 1 (by decide) fl_X1_11 ⟨rfl, rfl, rfl⟩ rfl rfl (Nat.le_of_ble_eq_true rfl) 0 (by decide) rfl rfl (fun H2 hB2 => ?_)
  refine gr_aload_n dX1_init_15 rfl ?_
  refine gr_bipush (v := nI 11) dX1_init_16 (by decide) ?_
  refine bk_newI hB2 dX1_init_18 (by decide) ⟨(Nat.le_of_ble_eq_true rfl), (Nat.le_of_ble_eq_true rfl)⟩ (fun q3 H3 hB3 => ?_)
  refine bk_putF hB3 dX1_init_20 cls_X1 2 (by decide) fl_X1_16 ⟨rfl, rfl, rfl⟩ rfl rfl (Nat.le_of_ble_eq_true rfl) 0 (by decide) rfl rfl (fun H4 hB4 => ?_)
  refine gr_aload_n dX1_init_23 rfl ?_
  refine gr_iload_n dX1_init_24 rfl ?_
  refine bk_putF hB4 dX1_init_25 cls_X1 0 (by decide) fl_X1_20 ⟨rfl, rfl, rfl⟩ rfl rfl (Nat.le_of_ble_eq_true rfl) 0 (by decide) rfl rfl (fun H5 hB5 => ?_)
  refine gr_return dX1_init_28 rfl (Nat.le_of_ble_eq_true rfl) (Nat.le_of_ble_eq_true rfl) ⟨rfl, _, rfl, hB5.congr (fun _ _ => rfl) (fun k hk => ?_)⟩
  rcases k with _ | _ | _ | _ | _ | _ | _ | _ | k
  · rfl
  · refine congrArg (ga_ii E 5) (funext fun i => ?_)
    rcases i with _ | _ | _ | _ | _ | i <;> rfl
  · rfl
  · rfl
  · rfl
  · rfl
  · rfl
  · rfl
  · omega

set_option maxHeartbeats 4000000 in
set_option maxRecDepth 100000 in
theorem c_X2_init (l : Launch) (E : ga_E) (d : Nat) (h : ga_H) (q : Nat) (hq : h q = none) : ga_Ok l E (d + 1) mX2_init [.ref q] (ga_up h q (ga_o 4 [.null, .null, .null, .null])) 23 336 (fun r0 h' => r0 = none ∧ ∃ A, A 0 = q ∧ Blk h A (lsC E A (fun _ => z0) (fun _ => false) (fun _ => some 0) z0) 24 h') := by
  refine ga_Ok.of 0 _ (by decide) rfl (Nat.le_of_ble_eq_true rfl) rfl ?_
  have hB0 := Blk_1 hq (ga_o 4 [.null, .null, .null, .null])
  refine gr_aload_n dX2_init_0 rfl ?_
  refine gr_objInit dX2_init_1 ml_X2_3 ⟨by show 1 ≤ d + 1; omega, by show 64 ≤ 64 * (d + 1); omega⟩ (by decide) ?_
  refine gr_aload_n dX2_init_4 rfl ?_
  refine gr_bipush (v := nI 19) dX2_init_5 (by decide) ?_
  refine gr_bipush (v := nI 14) dX2_init_7 (by decide) ?_
  refine bk_mna hB0 dX2_init_9 cl_X2_9 (by decide) (by decide) ⟨(Nat.le_of_ble_eq_true rfl), (Nat.le_of_ble_eq_true rfl)⟩ (fun q1 r1 H1 hB1 => ?_)
  refine bk_putF hB1 dX2_init_13 cls_X2 0 (by decide) fl_X2_11 ⟨rfl, rfl, rfl⟩ rfl rfl (Nat.le_of_ble_eq_true rfl) 0 (by decide) rfl rfl (fun H2 hB2 => ?_)
  refine gr_aload_n dX2_init_16 rfl ?_
  refine gr_bipush (v := nI 19) dX2_init_17 (by decide) ?_
  refine bk_newZ hB2 dX2_init_19 (by decide) ⟨(Nat.le_of_ble_eq_true rfl), (Nat.le_of_ble_eq_true rfl)⟩ (fun q3 H3 hB3 => ?_)
  refine bk_putF hB3 dX2_init_21 cls_X2 1 (by decide) fl_X2_16 ⟨rfl, rfl, rfl⟩ rfl rfl (Nat.le_of_ble_eq_true rfl) 0 (by decide) rfl rfl (fun H4 hB4 => ?_)
  refine gr_aload_n dX2_init_24 rfl ?_
  refine gr_bipush (v := nI 13) dX2_init_25 (by decide) ?_
  refine bk_newI hB4 dX2_init_27 (by decide) ⟨(Nat.le_of_ble_eq_true rfl), (Nat.le_of_ble_eq_true rfl)⟩ (fun q5 H5 hB5 => ?_)
  refine bk_putF hB5 dX2_init_29 cls_X2 2 (by decide) fl_X2_20 ⟨rfl, rfl, rfl⟩ rfl rfl (Nat.le_of_ble_eq_true rfl) 0 (by decide) rfl rfl (fun H6 hB6 => ?_)
  refine gr_aload_n dX2_init_32 rfl ?_
  refine gr_bipush (v := nI 19) dX2_init_33 (by decide) ?_
  refine bk_newI hB6 dX2_init_35 (by decide) ⟨(Nat.le_of_ble_eq_true rfl), (Nat.le_of_ble_eq_true rfl)⟩ (fun q7 H7 hB7 => ?_)
  refine bk_putF hB7 dX2_init_37 cls_X2 3 (by decide) fl_X2_24 ⟨rfl, rfl, rfl⟩ rfl rfl (Nat.le_of_ble_eq_true rfl) 0 (by decide) rfl rfl (fun H8 hB8 => ?_)
  refine gr_return dX2_init_40 rfl (Nat.le_of_ble_eq_true rfl) (Nat.le_of_ble_eq_true rfl) ⟨rfl, _, rfl, hB8.congr (fun _ _ => rfl) (fun k hk => ?_)⟩
  rcases k with _ | _ | _ | _ | _ | _ | _ | _ | _ | _ | _ | _ | _ | _ | _ | _ | _ | _ | _ | _ | _ | _ | _ | _ | k
  · rfl
  · refine congrArg (ga_ii E 19) (funext fun i => ?_)
    rcases i with _ | _ | _ | _ | _ | _ | _ | _ | _ | _ | _ | _ | _ | _ | _ | _ | _ | _ | _ | i <;> rfl
  · rfl
  · rfl
  · rfl
  · rfl
  · rfl
  · rfl
  · rfl
  · rfl
  · rfl
  · rfl
  · rfl
  · rfl
  · rfl
  · rfl
  · rfl
  · rfl
  · rfl
  · rfl
  · rfl
  · rfl
  · rfl
  · rfl
  · omega

def ordN (x : Int32) : Nat := if x < 1 then 1 else if 4 < x then 4 else ix x
theorem ordN_4 (x : Int32) : 1 ≤ ordN x ∧ ordN x ≤ 4 := by
  unfold ordN
  by_cases h1 : x < 1
  · rw [if_pos h1]; omega
  · rw [if_neg h1]
    by_cases h2 : 4 < x
    · rw [if_pos h2]; omega
    · rw [if_neg h2]
      obtain ⟨j, hj, rfl⟩ := nI_of (x := x) (fun z => h1 (Int32.lt_trans z (by decide)))
      rw [ix_nI hj]
      have a : ¬ j < 1 := fun z => h1 ((nI_ltI (b := 1) hj (by omega)).mpr z)
      have b : ¬ 4 < j := fun z => h2 ((nI_ltI (a := 4) (by omega) hj).mpr z)
      omega
theorem ordN_lo {x : Int32} (h : x < 1) : nI (ordN x) = nI 1 := by unfold ordN; rw [if_pos h]
theorem ordN_hi {x : Int32} (h1 : ¬ x < 1) (h : 4 < x) : nI (ordN x) = nI 4 := by unfold ordN; rw [if_neg h1, if_pos h]
theorem ordN_in {x : Int32} (h1 : ¬ x < 1) (h : ¬ 4 < x) : nI (ordN x) = x := by
  unfold ordN; rw [if_neg h1, if_neg h]
  obtain ⟨j, hj, rfl⟩ := nI_of (x := x) (fun z => h1 (Int32.lt_trans z (by decide)))
  rw [ix_nI hj]
def s9 (o : Nat) : Nat → Int32 := fun k => if k = 1 then nI o else 0

set_option maxHeartbeats 4000000 in
set_option maxRecDepth 100000 in
theorem c_X9_init (l : Launch) (E : ga_E) (d : Nat) (h : ga_H) (q : Nat) (hq : h q = none) (x : Int32) : ga_Ok l E (d + 1) mX9_init [.ref q, .int x] (ga_up h q (ga_o 9 [.int 0, .int 0, .null, .null, .null, .int 0, .null, .null, .int 0, .int 0, .null, .int 0, .null, .int 0, .null, .null, .null, .null, .null, .null, .null, .null])) 15 2265 (fun r0 h' => r0 = none ∧ ∃ A, A 0 = q ∧ Blk h A (mdC E A (s9 (ordN x)) z0 z0 z0 z0 z0 z0 z0 z0 z0 z0 z0 z0 z0 (fun _ => some 0) z0) 16 h') := by
  refine ga_Ok.of 0 _ (by decide) rfl (Nat.le_of_ble_eq_true rfl) rfl ?_
  have hB0 : BkL h [q] [ga_o 9 [.int 0, .int 0, .null, .null, .null, .int 0, .null, .null, .int 0, .int 0, .null, .int 0, .null, .int 0, .null, .null, .null, .null, .null, .null, .null, .null]] _ := BkL_1 hq _
  refine gr_aload_n dX9_init_0 rfl ?_
  refine gr_objInit dX9_init_1 ml_X9_1 ⟨by show 1 ≤ d + 1; omega, by show 64 ≤ 64 * (d + 1); omega⟩ (by decide) ?_
  refine gr_aload_n dX9_init_4 rfl ?_
  refine gr_iconst (v := nI 0) dX9_init_5 rfl ?_
  refine bl_putf hB0 dX9_init_6 cls_X9 0 (by decide) fl_X9_7 rfl rfl rfl (Nat.le_of_ble_eq_true rfl) (Nat.le_of_ble_eq_true rfl) rfl rfl (fun H1 (hB1 : BkL h [q] [ga_o 9 [.int (nI 0), .int 0, .null, .null, .null, .int 0, .null, .null, .int 0, .int 0, .null, .int 0, .null, .int 0, .null, .null, .null, .null, .null, .null, .null, .null]] H1) => ?_)
  refine gr_aload_n dX9_init_9 rfl ?_
  refine gr_bipush (v := nI 35) dX9_init_10 (by decide) ?_
  refine bl_newI hB1 dX9_init_12 (by decide) ⟨(Nat.le_of_ble_eq_true rfl), (Nat.le_of_ble_eq_true rfl)⟩ (fun q2 H2 (hB2 : BkL h [q, q2] [ga_o 9 [.int (nI 0), .int 0, .null, .null, .null, .int 0, .null, .null, .int 0, .int 0, .null, .int 0, .null, .int 0, .null, .null, .null, .null, .null, .null, .null, .null], ga_i E 35 (fun _ => 0)] H2) => ?_)
  refine bl_putF hB2 dX9_init_14 cls_X9 2 (by decide) fl_X9_13 ⟨rfl, rfl, rfl⟩ rfl rfl (Nat.le_of_ble_eq_true rfl) (Nat.le_of_ble_eq_true rfl) rfl rfl (fun H3 (hB3 : BkL h [q, q2] [ga_o 9 [.int (nI 0), .int 0, .ref q2, .null, .null, .int 0, .null, .null, .int 0, .int 0, .null, .int 0, .null, .int 0, .null, .null, .null, .null, .null, .null, .null, .null], ga_i E 35 (fun _ => 0)] H3) => ?_)
  refine gr_aload_n dX9_init_17 rfl ?_
  refine gr_bipush (v := nI 11) dX9_init_18 (by decide) ?_
  refine bl_newI hB3 dX9_init_20 (by decide) ⟨(Nat.le_of_ble_eq_true rfl), (Nat.le_of_ble_eq_true rfl)⟩ (fun q4 H4 (hB4 : BkL h [q, q2, q4] [ga_o 9 [.int (nI 0), .int 0, .ref q2, .null, .null, .int 0, .null, .null, .int 0, .int 0, .null, .int 0, .null, .int 0, .null, .null, .null, .null, .null, .null, .null, .null], ga_i E 35 (fun _ => 0), ga_i E 11 (fun _ => 0)] H4) => ?_)
  refine bl_putF hB4 dX9_init_22 cls_X9 3 (by decide) fl_X9_17 ⟨rfl, rfl, rfl⟩ rfl rfl (Nat.le_of_ble_eq_true rfl) (Nat.le_of_ble_eq_true rfl) rfl rfl (fun H5 (hB5 : BkL h [q, q2, q4] [ga_o 9 [.int (nI 0), .int 0, .ref q2, .ref q4, .null, .int 0, .null, .null, .int 0, .int 0, .null, .int 0, .null, .int 0, .null, .null, .null, .null, .null, .null, .null, .null], ga_i E 35 (fun _ => 0), ga_i E 11 (fun _ => 0)] H5) => ?_)
  refine gr_aload_n dX9_init_25 rfl ?_
  refine gr_bipush (v := nI 12) dX9_init_26 (by decide) ?_
  refine bl_newI hB5 dX9_init_28 (by decide) ⟨(Nat.le_of_ble_eq_true rfl), (Nat.le_of_ble_eq_true rfl)⟩ (fun q6 H6 (hB6 : BkL h [q, q2, q4, q6] [ga_o 9 [.int (nI 0), .int 0, .ref q2, .ref q4, .null, .int 0, .null, .null, .int 0, .int 0, .null, .int 0, .null, .int 0, .null, .null, .null, .null, .null, .null, .null, .null], ga_i E 35 (fun _ => 0), ga_i E 11 (fun _ => 0), ga_i E 12 (fun _ => 0)] H6) => ?_)
  refine bl_putF hB6 dX9_init_30 cls_X9 4 (by decide) fl_X9_20 ⟨rfl, rfl, rfl⟩ rfl rfl (Nat.le_of_ble_eq_true rfl) (Nat.le_of_ble_eq_true rfl) rfl rfl (fun H7 (hB7 : BkL h [q, q2, q4, q6] [ga_o 9 [.int (nI 0), .int 0, .ref q2, .ref q4, .ref q6, .int 0, .null, .null, .int 0, .int 0, .null, .int 0, .null, .int 0, .null, .null, .null, .null, .null, .null, .null, .null], ga_i E 35 (fun _ => 0), ga_i E 11 (fun _ => 0), ga_i E 12 (fun _ => 0)] H7) => ?_)
  refine gr_aload_n dX9_init_33 rfl ?_
  refine gr_iconst (v := nI 0) dX9_init_34 rfl ?_
  refine bl_putf hB7 dX9_init_35 cls_X9 5 (by decide) fl_X9_23 rfl rfl rfl (Nat.le_of_ble_eq_true rfl) (Nat.le_of_ble_eq_true rfl) rfl rfl (fun H8 (hB8 : BkL h [q, q2, q4, q6] [ga_o 9 [.int (nI 0), .int 0, .ref q2, .ref q4, .ref q6, .int (nI 0), .null, .null, .int 0, .int 0, .null, .int 0, .null, .int 0, .null, .null, .null, .null, .null, .null, .null, .null], ga_i E 35 (fun _ => 0), ga_i E 11 (fun _ => 0), ga_i E 12 (fun _ => 0)] H8) => ?_)
  refine gr_aload_n dX9_init_38 rfl ?_
  refine gr_bipush (v := nI 13) dX9_init_39 (by decide) ?_
  refine bl_newI hB8 dX9_init_41 (by decide) ⟨(Nat.le_of_ble_eq_true rfl), (Nat.le_of_ble_eq_true rfl)⟩ (fun q9 H9 (hB9 : BkL h [q, q2, q4, q6, q9] [ga_o 9 [.int (nI 0), .int 0, .ref q2, .ref q4, .ref q6, .int (nI 0), .null, .null, .int 0, .int 0, .null, .int 0, .null, .int 0, .null, .null, .null, .null, .null, .null, .null, .null], ga_i E 35 (fun _ => 0), ga_i E 11 (fun _ => 0), ga_i E 12 (fun _ => 0), ga_i E 13 (fun _ => 0)] H9) => ?_)
  refine bl_putF hB9 dX9_init_43 cls_X9 6 (by decide) fl_X9_26 ⟨rfl, rfl, rfl⟩ rfl rfl (Nat.le_of_ble_eq_true rfl) (Nat.le_of_ble_eq_true rfl) rfl rfl (fun H10 (hB10 : BkL h [q, q2, q4, q6, q9] [ga_o 9 [.int (nI 0), .int 0, .ref q2, .ref q4, .ref q6, .int (nI 0), .ref q9, .null, .int 0, .int 0, .null, .int 0, .null, .int 0, .null, .null, .null, .null, .null, .null, .null, .null], ga_i E 35 (fun _ => 0), ga_i E 11 (fun _ => 0), ga_i E 12 (fun _ => 0), ga_i E 13 (fun _ => 0)] H10) => ?_)
  refine gr_aload_n dX9_init_46 rfl ?_
  refine gr_sipush (v := nI 320) dX9_init_47 (by decide) ?_
  refine bl_newI hB10 dX9_init_50 (by decide) ⟨(Nat.le_of_ble_eq_true rfl), (Nat.le_of_ble_eq_true rfl)⟩ (fun q11 H11 (hB11 : BkL h [q, q2, q4, q6, q9, q11] [ga_o 9 [.int (nI 0), .int 0, .ref q2, .ref q4, .ref q6, .int (nI 0), .ref q9, .null, .int 0, .int 0, .null, .int 0, .null, .int 0, .null, .null, .null, .null, .null, .null, .null, .null], ga_i E 35 (fun _ => 0), ga_i E 11 (fun _ => 0), ga_i E 12 (fun _ => 0), ga_i E 13 (fun _ => 0), ga_i E 320 (fun _ => 0)] H11) => ?_)
  refine bl_putF hB11 dX9_init_52 cls_X9 7 (by decide) fl_X9_29 ⟨rfl, rfl, rfl⟩ rfl rfl (Nat.le_of_ble_eq_true rfl) (Nat.le_of_ble_eq_true rfl) rfl rfl (fun H12 (hB12 : BkL h [q, q2, q4, q6, q9, q11] [ga_o 9 [.int (nI 0), .int 0, .ref q2, .ref q4, .ref q6, .int (nI 0), .ref q9, .ref q11, .int 0, .int 0, .null, .int 0, .null, .int 0, .null, .null, .null, .null, .null, .null, .null, .null], ga_i E 35 (fun _ => 0), ga_i E 11 (fun _ => 0), ga_i E 12 (fun _ => 0), ga_i E 13 (fun _ => 0), ga_i E 320 (fun _ => 0)] H12) => ?_)
  refine gr_aload_n dX9_init_55 rfl ?_
  refine gr_iconst (v := nI 0) dX9_init_56 rfl ?_
  refine bl_putf hB12 dX9_init_57 cls_X9 8 (by decide) fl_X9_32 rfl rfl rfl (Nat.le_of_ble_eq_true rfl) (Nat.le_of_ble_eq_true rfl) rfl rfl (fun H13 (hB13 : BkL h [q, q2, q4, q6, q9, q11] [ga_o 9 [.int (nI 0), .int 0, .ref q2, .ref q4, .ref q6, .int (nI 0), .ref q9, .ref q11, .int (nI 0), .int 0, .null, .int 0, .null, .int 0, .null, .null, .null, .null, .null, .null, .null, .null], ga_i E 35 (fun _ => 0), ga_i E 11 (fun _ => 0), ga_i E 12 (fun _ => 0), ga_i E 13 (fun _ => 0), ga_i E 320 (fun _ => 0)] H13) => ?_)
  refine gr_aload_n dX9_init_60 rfl ?_
  refine gr_iconst (v := nI 0) dX9_init_61 rfl ?_
  refine bl_putf hB13 dX9_init_62 cls_X9 9 (by decide) fl_X9_36 rfl rfl rfl (Nat.le_of_ble_eq_true rfl) (Nat.le_of_ble_eq_true rfl) rfl rfl (fun H14 (hB14 : BkL h [q, q2, q4, q6, q9, q11] [ga_o 9 [.int (nI 0), .int 0, .ref q2, .ref q4, .ref q6, .int (nI 0), .ref q9, .ref q11, .int (nI 0), .int (nI 0), .null, .int 0, .null, .int 0, .null, .null, .null, .null, .null, .null, .null, .null], ga_i E 35 (fun _ => 0), ga_i E 11 (fun _ => 0), ga_i E 12 (fun _ => 0), ga_i E 13 (fun _ => 0), ga_i E 320 (fun _ => 0)] H14) => ?_)
  refine gr_aload_n dX9_init_65 rfl ?_
  refine gr_sipush (v := nI 169) dX9_init_66 (by decide) ?_
  refine bl_newI hB14 dX9_init_69 (by decide) ⟨(Nat.le_of_ble_eq_true rfl), (Nat.le_of_ble_eq_true rfl)⟩ (fun q15 H15 (hB15 : BkL h [q, q2, q4, q6, q9, q11, q15] [ga_o 9 [.int (nI 0), .int 0, .ref q2, .ref q4, .ref q6, .int (nI 0), .ref q9, .ref q11, .int (nI 0), .int (nI 0), .null, .int 0, .null, .int 0, .null, .null, .null, .null, .null, .null, .null, .null], ga_i E 35 (fun _ => 0), ga_i E 11 (fun _ => 0), ga_i E 12 (fun _ => 0), ga_i E 13 (fun _ => 0), ga_i E 320 (fun _ => 0), ga_i E 169 (fun _ => 0)] H15) => ?_)
  refine bl_putF hB15 dX9_init_71 cls_X9 10 (by decide) fl_X9_39 ⟨rfl, rfl, rfl⟩ rfl rfl (Nat.le_of_ble_eq_true rfl) (Nat.le_of_ble_eq_true rfl) rfl rfl (fun H16 (hB16 : BkL h [q, q2, q4, q6, q9, q11, q15] [ga_o 9 [.int (nI 0), .int 0, .ref q2, .ref q4, .ref q6, .int (nI 0), .ref q9, .ref q11, .int (nI 0), .int (nI 0), .ref q15, .int 0, .null, .int 0, .null, .null, .null, .null, .null, .null, .null, .null], ga_i E 35 (fun _ => 0), ga_i E 11 (fun _ => 0), ga_i E 12 (fun _ => 0), ga_i E 13 (fun _ => 0), ga_i E 320 (fun _ => 0), ga_i E 169 (fun _ => 0)] H16) => ?_)
  refine gr_aload_n dX9_init_74 rfl ?_
  refine gr_iconst (v := nI 0) dX9_init_75 rfl ?_
  refine bl_putf hB16 dX9_init_76 cls_X9 11 (by decide) fl_X9_42 rfl rfl rfl (Nat.le_of_ble_eq_true rfl) (Nat.le_of_ble_eq_true rfl) rfl rfl (fun H17 (hB17 : BkL h [q, q2, q4, q6, q9, q11, q15] [ga_o 9 [.int (nI 0), .int 0, .ref q2, .ref q4, .ref q6, .int (nI 0), .ref q9, .ref q11, .int (nI 0), .int (nI 0), .ref q15, .int (nI 0), .null, .int 0, .null, .null, .null, .null, .null, .null, .null, .null], ga_i E 35 (fun _ => 0), ga_i E 11 (fun _ => 0), ga_i E 12 (fun _ => 0), ga_i E 13 (fun _ => 0), ga_i E 320 (fun _ => 0), ga_i E 169 (fun _ => 0)] H17) => ?_)
  refine gr_aload_n dX9_init_79 rfl ?_
  refine gr_bipush (v := nI 13) dX9_init_80 (by decide) ?_
  refine bl_newI hB17 dX9_init_82 (by decide) ⟨(Nat.le_of_ble_eq_true rfl), (Nat.le_of_ble_eq_true rfl)⟩ (fun q18 H18 (hB18 : BkL h [q, q2, q4, q6, q9, q11, q15, q18] [ga_o 9 [.int (nI 0), .int 0, .ref q2, .ref q4, .ref q6, .int (nI 0), .ref q9, .ref q11, .int (nI 0), .int (nI 0), .ref q15, .int (nI 0), .null, .int 0, .null, .null, .null, .null, .null, .null, .null, .null], ga_i E 35 (fun _ => 0), ga_i E 11 (fun _ => 0), ga_i E 12 (fun _ => 0), ga_i E 13 (fun _ => 0), ga_i E 320 (fun _ => 0), ga_i E 169 (fun _ => 0), ga_i E 13 (fun _ => 0)] H18) => ?_)
  refine bl_putF hB18 dX9_init_84 cls_X9 12 (by decide) fl_X9_45 ⟨rfl, rfl, rfl⟩ rfl rfl (Nat.le_of_ble_eq_true rfl) (Nat.le_of_ble_eq_true rfl) rfl rfl (fun H19 (hB19 : BkL h [q, q2, q4, q6, q9, q11, q15, q18] [ga_o 9 [.int (nI 0), .int 0, .ref q2, .ref q4, .ref q6, .int (nI 0), .ref q9, .ref q11, .int (nI 0), .int (nI 0), .ref q15, .int (nI 0), .ref q18, .int 0, .null, .null, .null, .null, .null, .null, .null, .null], ga_i E 35 (fun _ => 0), ga_i E 11 (fun _ => 0), ga_i E 12 (fun _ => 0), ga_i E 13 (fun _ => 0), ga_i E 320 (fun _ => 0), ga_i E 169 (fun _ => 0), ga_i E 13 (fun _ => 0)] H19) => ?_)
  refine gr_aload_n dX9_init_87 rfl ?_
  refine gr_iconst (v := nI 0) dX9_init_88 rfl ?_
  refine bl_putf hB19 dX9_init_89 cls_X9 13 (by decide) fl_X9_48 rfl rfl rfl (Nat.le_of_ble_eq_true rfl) (Nat.le_of_ble_eq_true rfl) rfl rfl (fun H20 (hB20 : BkL h [q, q2, q4, q6, q9, q11, q15, q18] [ga_o 9 [.int (nI 0), .int 0, .ref q2, .ref q4, .ref q6, .int (nI 0), .ref q9, .ref q11, .int (nI 0), .int (nI 0), .ref q15, .int (nI 0), .ref q18, .int (nI 0), .null, .null, .null, .null, .null, .null, .null, .null], ga_i E 35 (fun _ => 0), ga_i E 11 (fun _ => 0), ga_i E 12 (fun _ => 0), ga_i E 13 (fun _ => 0), ga_i E 320 (fun _ => 0), ga_i E 169 (fun _ => 0), ga_i E 13 (fun _ => 0)] H20) => ?_)
  refine gr_aload_n dX9_init_92 rfl ?_
  refine gr_bipush (v := nI 8) dX9_init_93 (by decide) ?_
  refine bl_newI hB20 dX9_init_95 (by decide) ⟨(Nat.le_of_ble_eq_true rfl), (Nat.le_of_ble_eq_true rfl)⟩ (fun q21 H21 (hB21 : BkL h [q, q2, q4, q6, q9, q11, q15, q18, q21] [ga_o 9 [.int (nI 0), .int 0, .ref q2, .ref q4, .ref q6, .int (nI 0), .ref q9, .ref q11, .int (nI 0), .int (nI 0), .ref q15, .int (nI 0), .ref q18, .int (nI 0), .null, .null, .null, .null, .null, .null, .null, .null], ga_i E 35 (fun _ => 0), ga_i E 11 (fun _ => 0), ga_i E 12 (fun _ => 0), ga_i E 13 (fun _ => 0), ga_i E 320 (fun _ => 0), ga_i E 169 (fun _ => 0), ga_i E 13 (fun _ => 0), ga_i E 8 (fun _ => 0)] H21) => ?_)
  refine bl_putF hB21 dX9_init_97 cls_X9 14 (by decide) fl_X9_51 ⟨rfl, rfl, rfl⟩ rfl rfl (Nat.le_of_ble_eq_true rfl) (Nat.le_of_ble_eq_true rfl) rfl rfl (fun H22 (hB22 : BkL h [q, q2, q4, q6, q9, q11, q15, q18, q21] [ga_o 9 [.int (nI 0), .int 0, .ref q2, .ref q4, .ref q6, .int (nI 0), .ref q9, .ref q11, .int (nI 0), .int (nI 0), .ref q15, .int (nI 0), .ref q18, .int (nI 0), .ref q21, .null, .null, .null, .null, .null, .null, .null], ga_i E 35 (fun _ => 0), ga_i E 11 (fun _ => 0), ga_i E 12 (fun _ => 0), ga_i E 13 (fun _ => 0), ga_i E 320 (fun _ => 0), ga_i E 169 (fun _ => 0), ga_i E 13 (fun _ => 0), ga_i E 8 (fun _ => 0)] H22) => ?_)
  refine gr_aload_n dX9_init_100 rfl ?_
  refine gr_bipush (v := nI 8) dX9_init_101 (by decide) ?_
  refine bl_newI hB22 dX9_init_103 (by decide) ⟨(Nat.le_of_ble_eq_true rfl), (Nat.le_of_ble_eq_true rfl)⟩ (fun q23 H23 (hB23 : BkL h [q, q2, q4, q6, q9, q11, q15, q18, q21, q23] [ga_o 9 [.int (nI 0), .int 0, .ref q2, .ref q4, .ref q6, .int (nI 0), .ref q9, .ref q11, .int (nI 0), .int (nI 0), .ref q15, .int (nI 0), .ref q18, .int (nI 0), .ref q21, .null, .null, .null, .null, .null, .null, .null], ga_i E 35 (fun _ => 0), ga_i E 11 (fun _ => 0), ga_i E 12 (fun _ => 0), ga_i E 13 (fun _ => 0), ga_i E 320 (fun _ => 0), ga_i E 169 (fun _ => 0), ga_i E 13 (fun _ => 0), ga_i E 8 (fun _ => 0), ga_i E 8 (fun _ => 0)] H23) => ?_)
  refine bl_putF hB23 dX9_init_105 cls_X9 15 (by decide) fl_X9_54 ⟨rfl, rfl, rfl⟩ rfl rfl (Nat.le_of_ble_eq_true rfl) (Nat.le_of_ble_eq_true rfl) rfl rfl (fun H24 (hB24 : BkL h [q, q2, q4, q6, q9, q11, q15, q18, q21, q23] [ga_o 9 [.int (nI 0), .int 0, .ref q2, .ref q4, .ref q6, .int (nI 0), .ref q9, .ref q11, .int (nI 0), .int (nI 0), .ref q15, .int (nI 0), .ref q18, .int (nI 0), .ref q21, .ref q23, .null, .null, .null, .null, .null, .null], ga_i E 35 (fun _ => 0), ga_i E 11 (fun _ => 0), ga_i E 12 (fun _ => 0), ga_i E 13 (fun _ => 0), ga_i E 320 (fun _ => 0), ga_i E 169 (fun _ => 0), ga_i E 13 (fun _ => 0), ga_i E 8 (fun _ => 0), ga_i E 8 (fun _ => 0)] H24) => ?_)
  refine gr_aload_n dX9_init_108 rfl ?_
  refine gr_sipush (v := nI 1352) dX9_init_109 (by decide) ?_
  refine bl_newI hB24 dX9_init_112 (by decide) ⟨(Nat.le_of_ble_eq_true rfl), (Nat.le_of_ble_eq_true rfl)⟩ (fun q25 H25 (hB25 : BkL h [q, q2, q4, q6, q9, q11, q15, q18, q21, q23, q25] [ga_o 9 [.int (nI 0), .int 0, .ref q2, .ref q4, .ref q6, .int (nI 0), .ref q9, .ref q11, .int (nI 0), .int (nI 0), .ref q15, .int (nI 0), .ref q18, .int (nI 0), .ref q21, .ref q23, .null, .null, .null, .null, .null, .null], ga_i E 35 (fun _ => 0), ga_i E 11 (fun _ => 0), ga_i E 12 (fun _ => 0), ga_i E 13 (fun _ => 0), ga_i E 320 (fun _ => 0), ga_i E 169 (fun _ => 0), ga_i E 13 (fun _ => 0), ga_i E 8 (fun _ => 0), ga_i E 8 (fun _ => 0), ga_i E 1352 (fun _ => 0)] H25) => ?_)
  refine bl_putF hB25 dX9_init_114 cls_X9 16 (by decide) fl_X9_57 ⟨rfl, rfl, rfl⟩ rfl rfl (Nat.le_of_ble_eq_true rfl) (Nat.le_of_ble_eq_true rfl) rfl rfl (fun H26 (hB26 : BkL h [q, q2, q4, q6, q9, q11, q15, q18, q21, q23, q25] [ga_o 9 [.int (nI 0), .int 0, .ref q2, .ref q4, .ref q6, .int (nI 0), .ref q9, .ref q11, .int (nI 0), .int (nI 0), .ref q15, .int (nI 0), .ref q18, .int (nI 0), .ref q21, .ref q23, .ref q25, .null, .null, .null, .null, .null], ga_i E 35 (fun _ => 0), ga_i E 11 (fun _ => 0), ga_i E 12 (fun _ => 0), ga_i E 13 (fun _ => 0), ga_i E 320 (fun _ => 0), ga_i E 169 (fun _ => 0), ga_i E 13 (fun _ => 0), ga_i E 8 (fun _ => 0), ga_i E 8 (fun _ => 0), ga_i E 1352 (fun _ => 0)] H26) => ?_)
  refine gr_aload_n dX9_init_117 rfl ?_
  refine gr_sipush (v := nI 266) dX9_init_118 (by decide) ?_
  refine bl_newI hB26 dX9_init_121 (by decide) ⟨(Nat.le_of_ble_eq_true rfl), (Nat.le_of_ble_eq_true rfl)⟩ (fun q27 H27 (hB27 : BkL h [q, q2, q4, q6, q9, q11, q15, q18, q21, q23, q25, q27] [ga_o 9 [.int (nI 0), .int 0, .ref q2, .ref q4, .ref q6, .int (nI 0), .ref q9, .ref q11, .int (nI 0), .int (nI 0), .ref q15, .int (nI 0), .ref q18, .int (nI 0), .ref q21, .ref q23, .ref q25, .null, .null, .null, .null, .null], ga_i E 35 (fun _ => 0), ga_i E 11 (fun _ => 0), ga_i E 12 (fun _ => 0), ga_i E 13 (fun _ => 0), ga_i E 320 (fun _ => 0), ga_i E 169 (fun _ => 0), ga_i E 13 (fun _ => 0), ga_i E 8 (fun _ => 0), ga_i E 8 (fun _ => 0), ga_i E 1352 (fun _ => 0), ga_i E 266 (fun _ => 0)] H27) => ?_)
  refine bl_putF hB27 dX9_init_123 cls_X9 17 (by decide) fl_X9_60 ⟨rfl, rfl, rfl⟩ rfl rfl (Nat.le_of_ble_eq_true rfl) (Nat.le_of_ble_eq_true rfl) rfl rfl (fun H28 (hB28 : BkL h [q, q2, q4, q6, q9, q11, q15, q18, q21, q23, q25, q27] [ga_o 9 [.int (nI 0), .int 0, .ref q2, .ref q4, .ref q6, .int (nI 0), .ref q9, .ref q11, .int (nI 0), .int (nI 0), .ref q15, .int (nI 0), .ref q18, .int (nI 0), .ref q21, .ref q23, .ref q25, .ref q27, .null, .null, .null, .null], ga_i E 35 (fun _ => 0), ga_i E 11 (fun _ => 0), ga_i E 12 (fun _ => 0), ga_i E 13 (fun _ => 0), ga_i E 320 (fun _ => 0), ga_i E 169 (fun _ => 0), ga_i E 13 (fun _ => 0), ga_i E 8 (fun _ => 0), ga_i E 8 (fun _ => 0), ga_i E 1352 (fun _ => 0), ga_i E 266 (fun _ => 0)] H28) => ?_)
  refine gr_aload_n dX9_init_126 rfl ?_
  refine gr_bipush (v := nI 19) dX9_init_127 (by decide) ?_
  refine bl_newI hB28 dX9_init_129 (by decide) ⟨(Nat.le_of_ble_eq_true rfl), (Nat.le_of_ble_eq_true rfl)⟩ (fun q29 H29 (hB29 : BkL h [q, q2, q4, q6, q9, q11, q15, q18, q21, q23, q25, q27, q29] [ga_o 9 [.int (nI 0), .int 0, .ref q2, .ref q4, .ref q6, .int (nI 0), .ref q9, .ref q11, .int (nI 0), .int (nI 0), .ref q15, .int (nI 0), .ref q18, .int (nI 0), .ref q21, .ref q23, .ref q25, .ref q27, .null, .null, .null, .null], ga_i E 35 (fun _ => 0), ga_i E 11 (fun _ => 0), ga_i E 12 (fun _ => 0), ga_i E 13 (fun _ => 0), ga_i E 320 (fun _ => 0), ga_i E 169 (fun _ => 0), ga_i E 13 (fun _ => 0), ga_i E 8 (fun _ => 0), ga_i E 8 (fun _ => 0), ga_i E 1352 (fun _ => 0), ga_i E 266 (fun _ => 0), ga_i E 19 (fun _ => 0)] H29) => ?_)
  refine bl_putF hB29 dX9_init_131 cls_X9 18 (by decide) fl_X9_63 ⟨rfl, rfl, rfl⟩ rfl rfl (Nat.le_of_ble_eq_true rfl) (Nat.le_of_ble_eq_true rfl) rfl rfl (fun H30 (hB30 : BkL h [q, q2, q4, q6, q9, q11, q15, q18, q21, q23, q25, q27, q29] [ga_o 9 [.int (nI 0), .int 0, .ref q2, .ref q4, .ref q6, .int (nI 0), .ref q9, .ref q11, .int (nI 0), .int (nI 0), .ref q15, .int (nI 0), .ref q18, .int (nI 0), .ref q21, .ref q23, .ref q25, .ref q27, .ref q29, .null, .null, .null], ga_i E 35 (fun _ => 0), ga_i E 11 (fun _ => 0), ga_i E 12 (fun _ => 0), ga_i E 13 (fun _ => 0), ga_i E 320 (fun _ => 0), ga_i E 169 (fun _ => 0), ga_i E 13 (fun _ => 0), ga_i E 8 (fun _ => 0), ga_i E 8 (fun _ => 0), ga_i E 1352 (fun _ => 0), ga_i E 266 (fun _ => 0), ga_i E 19 (fun _ => 0)] H30) => ?_)
  refine gr_aload_n dX9_init_134 rfl ?_
  refine gr_bipush (v := nI 13) dX9_init_135 (by decide) ?_
  refine bl_newI hB30 dX9_init_137 (by decide) ⟨(Nat.le_of_ble_eq_true rfl), (Nat.le_of_ble_eq_true rfl)⟩ (fun q31 H31 (hB31 : BkL h [q, q2, q4, q6, q9, q11, q15, q18, q21, q23, q25, q27, q29, q31] [ga_o 9 [.int (nI 0), .int 0, .ref q2, .ref q4, .ref q6, .int (nI 0), .ref q9, .ref q11, .int (nI 0), .int (nI 0), .ref q15, .int (nI 0), .ref q18, .int (nI 0), .ref q21, .ref q23, .ref q25, .ref q27, .ref q29, .null, .null, .null], ga_i E 35 (fun _ => 0), ga_i E 11 (fun _ => 0), ga_i E 12 (fun _ => 0), ga_i E 13 (fun _ => 0), ga_i E 320 (fun _ => 0), ga_i E 169 (fun _ => 0), ga_i E 13 (fun _ => 0), ga_i E 8 (fun _ => 0), ga_i E 8 (fun _ => 0), ga_i E 1352 (fun _ => 0), ga_i E 266 (fun _ => 0), ga_i E 19 (fun _ => 0), ga_i E 13 (fun _ => 0)] H31) => ?_)
  refine bl_putF hB31 dX9_init_139 cls_X9 19 (by decide) fl_X9_66 ⟨rfl, rfl, rfl⟩ rfl rfl (Nat.le_of_ble_eq_true rfl) (Nat.le_of_ble_eq_true rfl) rfl rfl (fun H32 (hB32 : BkL h [q, q2, q4, q6, q9, q11, q15, q18, q21, q23, q25, q27, q29, q31] [ga_o 9 [.int (nI 0), .int 0, .ref q2, .ref q4, .ref q6, .int (nI 0), .ref q9, .ref q11, .int (nI 0), .int (nI 0), .ref q15, .int (nI 0), .ref q18, .int (nI 0), .ref q21, .ref q23, .ref q25, .ref q27, .ref q29, .ref q31, .null, .null], ga_i E 35 (fun _ => 0), ga_i E 11 (fun _ => 0), ga_i E 12 (fun _ => 0), ga_i E 13 (fun _ => 0), ga_i E 320 (fun _ => 0), ga_i E 169 (fun _ => 0), ga_i E 13 (fun _ => 0), ga_i E 8 (fun _ => 0), ga_i E 8 (fun _ => 0), ga_i E 1352 (fun _ => 0), ga_i E 266 (fun _ => 0), ga_i E 19 (fun _ => 0), ga_i E 13 (fun _ => 0)] H32) => ?_)
  refine gr_aload_n dX9_init_142 rfl ?_
  refine gr_bipush (v := nI 13) dX9_init_143 (by decide) ?_
  refine bl_newI hB32 dX9_init_145 (by decide) ⟨(Nat.le_of_ble_eq_true rfl), (Nat.le_of_ble_eq_true rfl)⟩ (fun q33 H33 (hB33 : BkL h [q, q2, q4, q6, q9, q11, q15, q18, q21, q23, q25, q27, q29, q31, q33] [ga_o 9 [.int (nI 0), .int 0, .ref q2, .ref q4, .ref q6, .int (nI 0), .ref q9, .ref q11, .int (nI 0), .int (nI 0), .ref q15, .int (nI 0), .ref q18, .int (nI 0), .ref q21, .ref q23, .ref q25, .ref q27, .ref q29, .ref q31, .null, .null], ga_i E 35 (fun _ => 0), ga_i E 11 (fun _ => 0), ga_i E 12 (fun _ => 0), ga_i E 13 (fun _ => 0), ga_i E 320 (fun _ => 0), ga_i E 169 (fun _ => 0), ga_i E 13 (fun _ => 0), ga_i E 8 (fun _ => 0), ga_i E 8 (fun _ => 0), ga_i E 1352 (fun _ => 0), ga_i E 266 (fun _ => 0), ga_i E 19 (fun _ => 0), ga_i E 13 (fun _ => 0), ga_i E 13 (fun _ => 0)] H33) => ?_)
  refine bl_putF hB33 dX9_init_147 cls_X9 20 (by decide) fl_X9_69 ⟨rfl, rfl, rfl⟩ rfl rfl (Nat.le_of_ble_eq_true rfl) (Nat.le_of_ble_eq_true rfl) rfl rfl (fun H34 (hB34 : BkL h [q, q2, q4, q6, q9, q11, q15, q18, q21, q23, q25, q27, q29, q31, q33] [ga_o 9 [.int (nI 0), .int 0, .ref q2, .ref q4, .ref q6, .int (nI 0), .ref q9, .ref q11, .int (nI 0), .int (nI 0), .ref q15, .int (nI 0), .ref q18, .int (nI 0), .ref q21, .ref q23, .ref q25, .ref q27, .ref q29, .ref q31, .ref q33, .null], ga_i E 35 (fun _ => 0), ga_i E 11 (fun _ => 0), ga_i E 12 (fun _ => 0), ga_i E 13 (fun _ => 0), ga_i E 320 (fun _ => 0), ga_i E 169 (fun _ => 0), ga_i E 13 (fun _ => 0), ga_i E 8 (fun _ => 0), ga_i E 8 (fun _ => 0), ga_i E 1352 (fun _ => 0), ga_i E 266 (fun _ => 0), ga_i E 19 (fun _ => 0), ga_i E 13 (fun _ => 0), ga_i E 13 (fun _ => 0)] H34) => ?_)
  refine gr_aload_n dX9_init_150 rfl ?_
  refine gr_bipush (v := nI 13) dX9_init_151 (by decide) ?_
  refine bl_newI hB34 dX9_init_153 (by decide) ⟨(Nat.le_of_ble_eq_true rfl), (Nat.le_of_ble_eq_true rfl)⟩ (fun q35 H35 (hB35 : BkL h [q, q2, q4, q6, q9, q11, q15, q18, q21, q23, q25, q27, q29, q31, q33, q35] [ga_o 9 [.int (nI 0), .int 0, .ref q2, .ref q4, .ref q6, .int (nI 0), .ref q9, .ref q11, .int (nI 0), .int (nI 0), .ref q15, .int (nI 0), .ref q18, .int (nI 0), .ref q21, .ref q23, .ref q25, .ref q27, .ref q29, .ref q31, .ref q33, .null], ga_i E 35 (fun _ => 0), ga_i E 11 (fun _ => 0), ga_i E 12 (fun _ => 0), ga_i E 13 (fun _ => 0), ga_i E 320 (fun _ => 0), ga_i E 169 (fun _ => 0), ga_i E 13 (fun _ => 0), ga_i E 8 (fun _ => 0), ga_i E 8 (fun _ => 0), ga_i E 1352 (fun _ => 0), ga_i E 266 (fun _ => 0), ga_i E 19 (fun _ => 0), ga_i E 13 (fun _ => 0), ga_i E 13 (fun _ => 0), ga_i E 13 (fun _ => 0)] H35) => ?_)
  refine bl_putF hB35 dX9_init_155 cls_X9 21 (by decide) fl_X9_72 ⟨rfl, rfl, rfl⟩ rfl rfl (Nat.le_of_ble_eq_true rfl) (Nat.le_of_ble_eq_true rfl) rfl rfl (fun H36 (hB36 : BkL h [q, q2, q4, q6, q9, q11, q15, q18, q21, q23, q25, q27, q29, q31, q33, q35] [ga_o 9 [.int (nI 0), .int 0, .ref q2, .ref q4, .ref q6, .int (nI 0), .ref q9, .ref q11, .int (nI 0), .int (nI 0), .ref q15, .int (nI 0), .ref q18, .int (nI 0), .ref q21, .ref q23, .ref q25, .ref q27, .ref q29, .ref q31, .ref q33, .ref q35], ga_i E 35 (fun _ => 0), ga_i E 11 (fun _ => 0), ga_i E 12 (fun _ => 0), ga_i E 13 (fun _ => 0), ga_i E 320 (fun _ => 0), ga_i E 169 (fun _ => 0), ga_i E 13 (fun _ => 0), ga_i E 8 (fun _ => 0), ga_i E 8 (fun _ => 0), ga_i E 1352 (fun _ => 0), ga_i E 266 (fun _ => 0), ga_i E 19 (fun _ => 0), ga_i E 13 (fun _ => 0), ga_i E 13 (fun _ => 0), ga_i E 13 (fun _ => 0)] H36) => ?_)
  refine gr_aload_n dX9_init_158 rfl ?_
  refine gr_iload_n dX9_init_159 rfl ?_
  refine gr_iconst (v := nI 1) dX9_init_160 rfl ?_
  refine gr_icmpge 168 dX9_init_161 (by decide) (fun c1 => ?_) (fun c1 => ?_)
  · have c1 : ¬ x < 1 := Int32.not_lt.mpr c1
    refine gr_iload_n dX9_init_168 rfl (gr_iconst (v := nI 4) dX9_init_169 rfl (gr_icmple 177 dX9_init_170 (by decide) (fun c2 => ?_) (fun c2 => ?_)))
    · refine gr_iload_n dX9_init_177 rfl ?_
      refine gr_top (congrArg Value.int (ordN_in c1 (Int32.not_lt.mpr c2)).symm) ?_
      refine bl_putF hB36 dX9_init_178 cls_X9 1 (by decide) fl_X9_75 ⟨rfl, rfl, rfl⟩ rfl rfl (Nat.le_of_ble_eq_true rfl) (Nat.le_of_ble_eq_true rfl) rfl rfl (fun H37 (hB37 : BkL h [q, q2, q4, q6, q9, q11, q15, q18, q21, q23, q25, q27, q29, q31, q33, q35] [ga_o 9 [.int (nI 0), .int (nI (ordN x)), .ref q2, .ref q4, .ref q6, .int (nI 0), .ref q9, .ref q11, .int (nI 0), .int (nI 0), .ref q15, .int (nI 0), .ref q18, .int (nI 0), .ref q21, .ref q23, .ref q25, .ref q27, .ref q29, .ref q31, .ref q33, .ref q35], ga_i E 35 (fun _ => 0), ga_i E 11 (fun _ => 0), ga_i E 12 (fun _ => 0), ga_i E 13 (fun _ => 0), ga_i E 320 (fun _ => 0), ga_i E 169 (fun _ => 0), ga_i E 13 (fun _ => 0), ga_i E 8 (fun _ => 0), ga_i E 8 (fun _ => 0), ga_i E 1352 (fun _ => 0), ga_i E 266 (fun _ => 0), ga_i E 19 (fun _ => 0), ga_i E 13 (fun _ => 0), ga_i E 13 (fun _ => 0), ga_i E 13 (fun _ => 0)] H37) => ?_)
      exact gr_return dX9_init_181 rfl (Nat.le_of_ble_eq_true rfl) (Nat.le_of_ble_eq_true rfl) ⟨rfl, lz [q, q2, q4, q6, q9, q11, q15, q18, q21, q23, q25, q27, q29, q31, q33, q35], rfl, Blk.congr (n := 16) hB37.2 (fun _ _ => rfl) (fun k hk => by rcases k with _ | _ | _ | _ | _ | _ | _ | _ | _ | _ | _ | _ | _ | _ | _ | _ | k <;> first | rfl | omega)⟩
    · refine gr_iconst (v := nI 4) dX9_init_173 rfl (gr_goto 178 dX9_init_174 (by decide) ?_)
      refine gr_top (congrArg Value.int (ordN_hi c1 (Int32.not_le.mp c2)).symm) ?_
      refine bl_putF hB36 dX9_init_178 cls_X9 1 (by decide) fl_X9_75 ⟨rfl, rfl, rfl⟩ rfl rfl (Nat.le_of_ble_eq_true rfl) (Nat.le_of_ble_eq_true rfl) rfl rfl (fun H37 (hB37 : BkL h [q, q2, q4, q6, q9, q11, q15, q18, q21, q23, q25, q27, q29, q31, q33, q35] [ga_o 9 [.int (nI 0), .int (nI (ordN x)), .ref q2, .ref q4, .ref q6, .int (nI 0), .ref q9, .ref q11, .int (nI 0), .int (nI 0), .ref q15, .int (nI 0), .ref q18, .int (nI 0), .ref q21, .ref q23, .ref q25, .ref q27, .ref q29, .ref q31, .ref q33, .ref q35], ga_i E 35 (fun _ => 0), ga_i E 11 (fun _ => 0), ga_i E 12 (fun _ => 0), ga_i E 13 (fun _ => 0), ga_i E 320 (fun _ => 0), ga_i E 169 (fun _ => 0), ga_i E 13 (fun _ => 0), ga_i E 8 (fun _ => 0), ga_i E 8 (fun _ => 0), ga_i E 1352 (fun _ => 0), ga_i E 266 (fun _ => 0), ga_i E 19 (fun _ => 0), ga_i E 13 (fun _ => 0), ga_i E 13 (fun _ => 0), ga_i E 13 (fun _ => 0)] H37) => ?_)
      exact gr_return dX9_init_181 rfl (Nat.le_of_ble_eq_true rfl) (Nat.le_of_ble_eq_true rfl) ⟨rfl, lz [q, q2, q4, q6, q9, q11, q15, q18, q21, q23, q25, q27, q29, q31, q33, q35], rfl, Blk.congr (n := 16) hB37.2 (fun _ _ => rfl) (fun k hk => by rcases k with _ | _ | _ | _ | _ | _ | _ | _ | _ | _ | _ | _ | _ | _ | _ | _ | k <;> first | rfl | omega)⟩
  · refine gr_iconst (v := nI 1) dX9_init_164 rfl (gr_goto 178 dX9_init_165 (by decide) ?_)
    refine gr_top (congrArg Value.int (ordN_lo (Int32.not_le.mp c1)).symm) ?_
    refine bl_putF hB36 dX9_init_178 cls_X9 1 (by decide) fl_X9_75 ⟨rfl, rfl, rfl⟩ rfl rfl (Nat.le_of_ble_eq_true rfl) (Nat.le_of_ble_eq_true rfl) rfl rfl (fun H37 (hB37 : BkL h [q, q2, q4, q6, q9, q11, q15, q18, q21, q23, q25, q27, q29, q31, q33, q35] [ga_o 9 [.int (nI 0), .int (nI (ordN x)), .ref q2, .ref q4, .ref q6, .int (nI 0), .ref q9, .ref q11, .int (nI 0), .int (nI 0), .ref q15, .int (nI 0), .ref q18, .int (nI 0), .ref q21, .ref q23, .ref q25, .ref q27, .ref q29, .ref q31, .ref q33, .ref q35], ga_i E 35 (fun _ => 0), ga_i E 11 (fun _ => 0), ga_i E 12 (fun _ => 0), ga_i E 13 (fun _ => 0), ga_i E 320 (fun _ => 0), ga_i E 169 (fun _ => 0), ga_i E 13 (fun _ => 0), ga_i E 8 (fun _ => 0), ga_i E 8 (fun _ => 0), ga_i E 1352 (fun _ => 0), ga_i E 266 (fun _ => 0), ga_i E 19 (fun _ => 0), ga_i E 13 (fun _ => 0), ga_i E 13 (fun _ => 0), ga_i E 13 (fun _ => 0)] H37) => ?_)
    exact gr_return dX9_init_181 rfl (Nat.le_of_ble_eq_true rfl) (Nat.le_of_ble_eq_true rfl) ⟨rfl, lz [q, q2, q4, q6, q9, q11, q15, q18, q21, q23, q25, q27, q29, q31, q33, q35], rfl, Blk.congr (n := 16) hB37.2 (fun _ _ => rfl) (fun k hk => by rcases k with _ | _ | _ | _ | _ | _ | _ | _ | _ | _ | _ | _ | _ | _ | _ | _ | k <;> first | rfl | omega)⟩
