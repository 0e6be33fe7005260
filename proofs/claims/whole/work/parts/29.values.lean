/-! Values; Equation.empty -/
def vH (E : ga_E) (h : ga_H) (va vn st kn : Nat) (y : Nat → zp) : ga_H := ga_up (ga_up h vn (ga_f E 301 y)) va (ga_o 7 [.ref vn, .int (nI st), .int (nI kn)])
section VA
variable {E : ga_E} {h : ga_H} {va vn st kn : Nat} {y : Nat → zp}
theorem vh_0 : vH E h va vn st kn y va = some (ga_o 7 [.ref vn, .int (nI st), .int (nI kn)]) := ga_up_eq
theorem vh_1 (hne : vn ≠ va) : vH E h va vn st kn y vn = some (ga_f E 301 y) := (ga_up_ne hne).trans ga_up_eq
theorem vh_o {q : Nat} (h1 : q ≠ va) (h2 : q ≠ vn) : vH E h va vn st kn y q = h q := (ga_up_ne h1).trans (ga_up_ne h2)
theorem vh_w1 (hne : vn ≠ va) (x : Nat → zp) : ga_up (vH E h va vn st kn y) vn (ga_f E 301 x) = vH E h va vn st kn x := by
  unfold vH
  rw [ga_up_comm _ _ _ (fun z => hne z.symm), ga_up_up]
theorem vh_w0 (a b : Nat) : ga_up (vH E h va vn st kn y) va (ga_o 7 [.ref vn, .int (nI a), .int (nI b)]) = vH E h va vn a b y := ga_up_up _ _ _ _
theorem vh_self (h0 : h va = some (ga_o 7 [.ref vn, .int (nI st), .int (nI kn)])) (h1 : h vn = some (ga_f E 301 y)) : vH E h va vn st kn y = h := by
  unfold vH
  rw [ga_up_self h1, ga_up_self h0]
theorem vh_eq {B : Nat → Nat} {o : Nat} {F : Nat → Nat → zp} {S : Nat → zp} (hB : eqAt E h B o F S) (hv : ∀ k, k < 8 → B k ≠ va ∧ B k ≠ vn) : eqAt E (vH E h va vn st kn y) B o F S := fun k hk => (vh_o (hv k hk).1 (hv k hk).2).trans (hB k hk)
end VA
/-- what the last term must be, k terms taken off *)-/
def demI (F : Nat → Nat → zp) (S y : Nat → zp) (p : Nat) : Nat → zp
  | 0 => phor S (zo p) 11 0
  | k + 1 => demI F S y p k - phor (F k) (zo p) 7 0 * y (p + k)
/-- k values more; whether all are known *)-/
def vaR (F : Nat → Nat → zp) (S : Nat → zp) (g : Nat) : Nat → Nat → (Nat → zp) → Bool × Nat × (Nat → zp)
  | 0, kn, y => (true, kn, y)
  | k + 1, kn, y => if phor (F g) (zo (kn - g)) 7 0 = 0 then (false, kn, y) else vaR F S g k (kn + 1) (va_up y kn (demI F S y (kn - g) g * zinv (phor (F g) (zo (kn - g)) 7 0)))

set_option maxHeartbeats 4000000 in
set_option maxRecDepth 100000 in
theorem c_addStart (l : Launch) (E : ga_E) (d : Nat) (h : ga_H) (va vn st kn : Nat) (y : Nat → zp) (hne : vn ≠ va) (x : zp) (hst : st ≤ 12) : ga_Ok l E d mX7_addStart [.ref va, .int (nI x.val)] (vH E h va vn st kn y) 0 0 (fun r0 h' => 12 ≤ st ∧ h' = vH E h va vn st kn y ∧ r0 = some (.int (nI 0)) ∨ st < 12 ∧ h' = vH E h va vn (st + 1) (st + 1) (va_up y st x) ∧ r0 = some (.int (nI 1))) := by
  refine ga_Ok.of 0 _ (by decide) rfl (Nat.le_of_ble_eq_true rfl) rfl ?_
  refine gr_aload_n dX7_addStart_0 rfl ?_
  refine gr_getf dX7_addStart_1 cls_X7 1 (by decide) fl_X7_15 vh_0 rfl ?_
  refine gr_bipush (v := nI 12) dX7_addStart_4 (by decide) ?_
  refine gr_icmpltN 11 dX7_addStart_6 (by decide) (by omega) (by decide) (fun c_6 => ?_) (fun c_6 => ?_)
  · refine gr_aload_n dX7_addStart_11 rfl ?_
    refine gr_getf dX7_addStart_12 cls_X7 0 (by decide) fl_X7_9 vh_0 rfl ?_
    refine gr_aload_n dX7_addStart_15 rfl ?_
    refine gr_getf dX7_addStart_16 cls_X7 1 (by decide) fl_X7_15 vh_0 rfl ?_
    refine gr_iload_n dX7_addStart_19 rfl ?_
    refine gr_iastoreF dX7_addStart_20 (vh_1 hne) (by omega) (by decide) ?_
    rw [vh_w1 hne]
    refine gr_aload_n dX7_addStart_21 rfl ?_
    refine gr_dup dX7_addStart_22 rfl ?_
    refine gr_getf dX7_addStart_23 cls_X7 1 (by decide) fl_X7_15 vh_0 rfl ?_
    refine gr_iconst (v := nI 1) dX7_addStart_26 rfl ?_
    refine gr_iaddN dX7_addStart_27 ?_
    refine gr_putf dX7_addStart_28 cls_X7 1 (by decide) fl_X7_15 rfl rfl rfl (by show 1 < 3; decide) vh_0 ?_
    refine gr_h (vh_w0 (st + 1) kn) ?_
    refine gr_aload_n dX7_addStart_31 rfl ?_
    refine gr_aload_n dX7_addStart_32 rfl ?_
    refine gr_getf dX7_addStart_33 cls_X7 1 (by decide) fl_X7_15 vh_0 rfl ?_
    refine gr_putf dX7_addStart_36 cls_X7 2 (by decide) fl_X7_19 rfl rfl rfl (by show 2 < 3; decide) vh_0 ?_
    refine gr_h (vh_w0 (st + 1) (st + 1)) ?_
    refine gr_iconst (v := nI 1) dX7_addStart_39 rfl ?_
    exact gr_zreturn dX7_addStart_40 rfl (by decide) (Nat.le_refl _) (Nat.le_refl _) (Or.inr ⟨c_6, rfl, rfl⟩)
  · refine gr_iconst (v := nI 0) dX7_addStart_9 rfl ?_
    exact gr_zreturn dX7_addStart_10 rfl (by decide) (Nat.le_refl _) (Nat.le_refl _) (Or.inl ⟨c_6, rfl, rfl⟩)

set_option maxHeartbeats 4000000 in
set_option maxRecDepth 100000 in
theorem c_vForget (l : Launch) (E : ga_E) (d : Nat) (h : ga_H) (va vn st kn : Nat) (y : Nat → zp) (hne : vn ≠ va) : ga_Ok l E d mX7_forgetConclusions [.ref va] (vH E h va vn st kn y) 0 0 (fun r0 h' => h' = vH E h va vn st st y ∧ r0 = none) := by
  refine ga_Ok.of 0 _ (by decide) rfl (Nat.le_of_ble_eq_true rfl) rfl ?_
  refine gr_aload_n dX7_forgetConclusions_0 rfl ?_
  refine gr_aload_n dX7_forgetConclusions_1 rfl ?_
  refine gr_getf dX7_forgetConclusions_2 cls_X7 1 (by decide) fl_X7_15 vh_0 rfl ?_
  refine gr_putf dX7_forgetConclusions_5 cls_X7 2 (by decide) fl_X7_19 rfl rfl rfl (by show 2 < 3; decide) vh_0 ?_
  refine gr_h (vh_w0 st st) ?_
  exact gr_return dX7_forgetConclusions_8 rfl (Nat.le_refl _) (Nat.le_refl _) ⟨rfl, rfl⟩

set_option maxHeartbeats 4000000 in
set_option maxRecDepth 100000 in
theorem c_vEmpty (l : Launch) (E : ga_E) (d : Nat) (h : ga_H) (va vn st kn : Nat) (y : Nat → zp) (hne : vn ≠ va) : ga_Ok l E d mX7_empty [.ref va] (vH E h va vn st kn y) 0 0 (fun r0 h' => h' = vH E h va vn 0 0 y ∧ r0 = none) := by
  refine ga_Ok.of 0 _ (by decide) rfl (Nat.le_of_ble_eq_true rfl) rfl ?_
  refine gr_aload_n dX7_empty_0 rfl ?_
  refine gr_iconst (v := nI 0) dX7_empty_1 rfl ?_
  refine gr_putf dX7_empty_2 cls_X7 1 (by decide) fl_X7_15 rfl rfl rfl (by show 1 < 3; decide) vh_0 ?_
  refine gr_h (vh_w0 0 kn) ?_
  refine gr_aload_n dX7_empty_5 rfl ?_
  refine gr_iconst (v := nI 0) dX7_empty_6 rfl ?_
  refine gr_putf dX7_empty_7 cls_X7 2 (by decide) fl_X7_19 rfl rfl rfl (by show 2 < 3; decide) vh_0 ?_
  refine gr_h (vh_w0 0 0) ?_
  exact gr_return dX7_empty_10 rfl (Nat.le_refl _) (Nat.le_refl _) ⟨rfl, rfl⟩

set_option maxHeartbeats 4000000 in
set_option maxRecDepth 100000 in
theorem c_dm_loop (l : Launch) (E : ga_E) (d : Nat) (h : ga_H) (va vn : Nat) (x1 x2 : Int32) (y : Nat → zp) (h0 : h va = some (ga_o 7 [.ref vn, .int x1, .int x2])) (h1v : h vn = some (ga_f E 301 y)) (B : Nat → Nat) (o : Nat) (F : Nat → Nat → zp) (S : Nat → zp) (hB : eqAt E h B o F S) (g p : Nat) (hg : g < 5) (hp : p + g < 301) : ∀ (m k : Nat) (x6 : Option Value), k + m = g → ga_G l E mX7_demand (ga_Rm (d + 1) 0 0) (ga_Z E (fun r0 h' => h' = h ∧ r0 = some (.int (nI (demI F S y p g).val))) 0 0) 13 [some (.ref va), some (.ref (B 0)), some (.int (nI g)), some (.int (nI p)), some (.int (nI (demI F S y p k).val)), some (.int (nI k)), x6] [] h 0 0 := by
  intro m
  induction m with
  | zero =>
    intro k x6 hk
    refine gr_iload dX7_demand_13 rfl (gr_iload_n dX7_demand_15 rfl ?_)
    refine gr_icmpgeN 56 dX7_demand_16 (by decide) (by omega) (by omega) (fun _ => ?_) (fun z => absurd z (by omega))
    refine gr_iload dX7_demand_56 rfl ?_
    exact gr_ireturn dX7_demand_58 rfl (Nat.le_refl _) (Nat.le_refl _) ⟨rfl, by rw [show k = g by omega]⟩
  | succ m ih =>
    intro k x6 hk
    refine gr_iload dX7_demand_13 rfl (gr_iload_n dX7_demand_15 rfl ?_)
    refine gr_icmpgeN 56 dX7_demand_16 (by decide) (by omega) (by omega) (fun z => absurd z (by omega)) (fun _ => ?_)
    refine gr_aload_n dX7_demand_19 rfl ?_
    refine gr_getf dX7_demand_20 cls_X1 1 (by decide) fl_X7_28 (eq_0 hB) rfl ?_
    refine gr_iload dX7_demand_23 rfl ?_
    refine gr_aaloadI dX7_demand_25 (eq_1 hB) (by omega) (by decide) (eq_R (by omega)) ?_
    refine gr_iload_n dX7_demand_26 rfl ?_
    refine gr_callS dX7_demand_27 (c_valueAt l E d h (B (2 + k)) 7 p (F k) (eq_r hB (by omega)) (by decide) (by omega)) ysX4_valueAt ⟨ml_X7_32, sm_X4_valueAt⟩ rfl rfl (Nat.le_of_ble_eq_true rfl) ⟨(Nat.le_refl _), (Nat.le_refl _)⟩ ⟨(Nat.le_refl _), (Nat.le_refl _)⟩ (fun r0 h1 hp9 => ?_)
    obtain ⟨e1, rfl⟩ := hp9
    subst h1
    refine gr_istore dX7_demand_30 (by decide) rfl ?_
    refine gr_iload dX7_demand_32 rfl ?_
    refine gr_iload dX7_demand_34 rfl ?_
    refine gr_aload_n dX7_demand_36 rfl ?_
    refine gr_getf dX7_demand_37 cls_X7 0 (by decide) fl_X7_9 h0 rfl ?_
    refine gr_iload_n dX7_demand_40 rfl ?_
    refine gr_iload dX7_demand_41 rfl ?_
    refine gr_iaddN dX7_demand_43 ?_
    refine gr_ialoadF dX7_demand_44 h1v (by omega) (by decide) ?_
    refine gr_callS dX7_demand_45 (c_less l E d h _ _ _) ysX3_less ⟨ml_X7_51, sm_X3_less⟩ rfl rfl (Nat.le_of_ble_eq_true rfl) ⟨(Nat.le_refl _), (Nat.le_refl _)⟩ ⟨(Nat.le_refl _), (Nat.le_refl _)⟩ (fun r0 h1 hp9 => ?_)
    obtain ⟨e1, rfl⟩ := hp9
    subst h1
    refine gr_istore dX7_demand_48 (by decide) rfl ?_
    refine gr_iinc (v := nI (_ + 1)) dX7_demand_50 rfl (nI_1 _) (by decide) rfl ?_
    refine gr_goto 13 dX7_demand_53 (by decide) ?_
    exact ih (k + 1) _ (by omega)

set_option maxHeartbeats 4000000 in
set_option maxRecDepth 100000 in
theorem c_demand (l : Launch) (E : ga_E) (d : Nat) (h : ga_H) (va vn : Nat) (x1 x2 : Int32) (y : Nat → zp) (h0 : h va = some (ga_o 7 [.ref vn, .int x1, .int x2])) (h1v : h vn = some (ga_f E 301 y)) (B : Nat → Nat) (o : Nat) (F : Nat → Nat → zp) (S : Nat → zp) (hB : eqAt E h B o F S) (g p : Nat) (hg : g < 5) (hp : p + g < 301) : ga_Ok l E (d + 1) mX7_demand [.ref va, .ref (B 0), .int (nI g), .int (nI p)] h 0 0 (fun r0 h' => h' = h ∧ r0 = some (.int (nI (demI F S y p g).val))) := by
  refine ga_Ok.of 3 _ (by decide) rfl (Nat.le_of_ble_eq_true rfl) rfl ?_
  refine gr_aload_n dX7_demand_0 rfl ?_
  refine gr_getf dX7_demand_1 cls_X1 2 (by decide) fl_X7_48 (eq_0 hB) rfl ?_
  refine gr_iload_n dX7_demand_4 rfl ?_
  refine gr_callS dX7_demand_5 (c_valueAt l E d h (B 7) 11 p S (eq_7 hB) (by decide) (by omega)) ysX4_valueAt ⟨ml_X7_32, sm_X4_valueAt⟩ rfl rfl (Nat.le_of_ble_eq_true rfl) ⟨(Nat.le_refl _), (Nat.le_refl _)⟩ ⟨(Nat.le_refl _), (Nat.le_refl _)⟩ (fun r0 h1 hp9 => ?_)
  obtain ⟨e1, rfl⟩ := hp9
  subst h1
  refine gr_istore dX7_demand_8 (by decide) rfl ?_
  refine gr_iconst (v := nI 0) dX7_demand_10 rfl ?_
  refine gr_istore dX7_demand_11 (by decide) rfl ?_
  exact c_dm_loop l E d h va vn x1 x2 y h0 h1v B o F S hB g p hg hp g 0 _ (by omega)

set_option maxHeartbeats 4000000 in
set_option maxRecDepth 100000 in
theorem c_va_loop (l : Launch) (E : ga_E) (d : Nat) (h : ga_H) (va vn st : Nat) (hne : vn ≠ va) (B : Nat → Nat) (o : Nat) (F : Nat → Nat → zp) (S : Nat → zp) (hB : eqAt E h B o F S) (hv : ∀ k, k < 8 → B k ≠ va ∧ B k ≠ vn) (n : Nat) (hn : n < 301) (g : Nat) (hg : g < 5) (N : Bool × Nat × (Nat → zp)) (PP : Option Value → ga_H → Prop) (hPP : ∀ r0 h', h' = vH E h va vn st N.2.1 N.2.2 → r0 = some (Value.int (if N.1 then nI (N.2.2 n).val else -1)) → PP r0 h') : ∀ (m kn : Nat) (y : Nat → zp) (x5 x6 : Option Value), n + 1 - kn = m → g ≤ kn → kn < 2 ^ 31 → vaR F S g m kn y = N → ga_G l E mX7_at (ga_Rm (d + 2) 0 0) (ga_Z E (fun r0 h' => PP r0 h') 0 0) 36 [some (.ref va), some (.ref (B 0)), some (.int (nI n)), some (.int (nI g)), some (.int (nI kn)), x5, x6] [] (vH E h va vn st kn y) 0 0 := by
  intro m
  induction m with
  | zero =>
    intro kn y x5 x6 hm hk hkb hN
    by_cases hb : kn < 2 ^ 31
    · refine gr_iload dX7_at_36 rfl (gr_iload_n dX7_at_38 rfl ?_)
      refine gr_icmpgtN 107 dX7_at_39 (by decide) hb (by omega) (fun _ => ?_) (fun z => absurd z (by omega))
      refine gr_aload_n dX7_at_107 rfl (gr_getf dX7_at_108 cls_X7 0 (by decide) fl_X7_9 vh_0 rfl (gr_iload_n dX7_at_111 rfl (gr_ialoadF dX7_at_112 (vh_1 hne) hn (by decide) ?_)))
      exact gr_ireturn dX7_at_113 rfl (Nat.le_refl _) (Nat.le_refl _) (hPP _ _ (by rw [← hN]; rfl) (by rw [← hN]; rfl))
    · exact absurd hkb hb
  | succ m ih =>
    intro kn y x5 x6 hm hk hkb hN
    have hE := vh_eq (st := st) (kn := kn) (y := y) hB hv
    refine gr_iload dX7_at_36 rfl (gr_iload_n dX7_at_38 rfl ?_)
    refine gr_icmpgtN 107 dX7_at_39 (by decide) (by omega) (by omega) (fun z => absurd z (by omega)) (fun _ => ?_)
    refine gr_iload dX7_at_42 rfl ?_
    refine gr_iload_n dX7_at_44 rfl ?_
    refine gr_isubN dX7_at_45 (by omega) ?_
    refine gr_istore dX7_at_46 (by decide) rfl ?_
    refine gr_aload_n dX7_at_48 rfl ?_
    refine gr_getf dX7_at_49 cls_X1 1 (by decide) fl_X7_28 (eq_0 hE) rfl ?_
    refine gr_iload_n dX7_at_52 rfl ?_
    refine gr_aaloadI dX7_at_53 (eq_1 hE) (by omega) (by decide) (eq_R (by omega)) ?_
    refine gr_iload dX7_at_54 rfl ?_
    refine gr_callS dX7_at_56 (c_valueAt l E (d + 1) _ (B (2 + g)) 7 (kn - g) (F g) (eq_r hE (by omega)) (by decide) (by omega)) ysX4_valueAt ⟨ml_X7_32, sm_X4_valueAt⟩ rfl rfl (Nat.le_of_ble_eq_true rfl) ⟨(Nat.le_refl _), (Nat.le_refl _)⟩ ⟨(Nat.le_refl _), (Nat.le_refl _)⟩ (fun r0 h1 hp9 => ?_)
    obtain ⟨e1, rfl⟩ := hp9
    subst h1
    refine gr_istore dX7_at_59 (by decide) rfl ?_
    refine gr_iload dX7_at_61 rfl ?_
    refine gr_ifneN 68 dX7_at_63 (by decide) (by have := zl (phor (F g) (zo (kn - g)) 7 0); omega) (fun c_63 => ?_) (fun c_63 => ?_)
    · refine gr_aload_n dX7_at_68 rfl ?_
      refine gr_getf dX7_at_69 cls_X7 0 (by decide) fl_X7_9 vh_0 rfl ?_
      refine gr_iload dX7_at_72 rfl ?_
      refine gr_aload_n dX7_at_74 rfl ?_
      refine gr_aload_n dX7_at_75 rfl ?_
      refine gr_iload_n dX7_at_76 rfl ?_
      refine gr_iload dX7_at_77 rfl ?_
      refine gr_callV dX7_at_79 (c_demand l E d _ va vn _ _ y vh_0 (vh_1 hne) B o F S hE g (kn - g) hg (by omega)) ysX7_demand ⟨ml_X7_38, im_X7_demand, sl_X7_demand⟩ vh_0 (show vwCl[7]? = some (RX7, TX7, _) from rfl) rfl rfl (Nat.le_of_ble_eq_true rfl) ⟨(Nat.le_refl _), (Nat.le_refl _)⟩ ⟨(Nat.le_refl _), (Nat.le_refl _)⟩ (fun r0 h1 hp9 => ?_)
      obtain ⟨e1, rfl⟩ := hp9
      subst h1
      refine gr_iload dX7_at_82 rfl ?_
      refine gr_callS dX7_at_84 (c_inverse l E (d + 1) _ _) ysX3_inverse ⟨ml_X7_42, sm_X3_inverse⟩ rfl rfl (Nat.le_of_ble_eq_true rfl) ⟨(Nat.le_refl _), (Nat.le_refl _)⟩ ⟨(Nat.le_refl _), (Nat.le_refl _)⟩ (fun r0 h1 hp9 => ?_)
      obtain ⟨e1, rfl⟩ := hp9
      subst h1
      refine gr_mulP dX7_at_87 dX7_at_88 dX7_at_91 ?_
      refine gr_iastoreF dX7_at_92 (vh_1 hne) (by omega) (by decide) ?_
      rw [vh_w1 hne]
      refine gr_aload_n dX7_at_93 rfl ?_
      refine gr_iload dX7_at_94 rfl ?_
      refine gr_iconst (v := nI 1) dX7_at_96 rfl ?_
      refine gr_iaddN dX7_at_97 ?_
      refine gr_putf dX7_at_98 cls_X7 2 (by decide) fl_X7_19 rfl rfl rfl (by show 2 < 3; decide) vh_0 ?_
      refine gr_h (vh_w0 st (kn + 1)) ?_
      refine gr_iinc (v := nI (_ + 1)) dX7_at_101 rfl (nI_1 _) (by decide) rfl ?_
      refine gr_goto 36 dX7_at_104 (by decide) ?_
      exact ih (kn + 1) _ _ _ (by omega) (by omega) (by omega) (by rw [← hN]; exact (if_neg (fun z => c_63 (by rw [z]; rfl))).symm)
    · refine gr_iconst (v := -1) dX7_at_66 (by decide) ?_
      have e : vaR F S g (m + 1) kn y = (false, kn, y) := if_pos (Fin.ext c_63)
      exact gr_ireturn dX7_at_67 rfl (Nat.le_refl _) (Nat.le_refl _) (hPP _ _ (by rw [← hN, e]) (by rw [← hN, e]; rfl))

set_option maxHeartbeats 4000000 in
set_option maxRecDepth 100000 in
theorem c_valuesAt (l : Launch) (E : ga_E) (d : Nat) (h : ga_H) (va vn st : Nat) (hne : vn ≠ va) (B : Nat → Nat) (o : Nat) (F : Nat → Nat → zp) (S : Nat → zp) (hB : eqAt E h B o F S) (hv : ∀ k, k < 8 → B k ≠ va ∧ B k ≠ vn) (n : Nat) (hn : n < 301) (kn : Nat) (y : Nat → zp) (hst : st ≤ kn) (hkn : kn ≤ 301) : ga_Ok l E (d + 2) mX7_at [.ref va, .ref (B 0), .int (nI n)] (vH E h va vn st kn y) 0 0 (fun r0 h' => ∃ q, GreatS F q ∧ ((q = none ∨ ∃ g, q = some g ∧ st < g) ∧ h' = vH E h va vn st kn y ∧ r0 = some (.int (-1)) ∨ ∃ g, q = some g ∧ g ≤ st ∧ h' = vH E h va vn st (vaR F S g (n + 1 - kn) kn y).2.1 (vaR F S g (n + 1 - kn) kn y).2.2 ∧ r0 = some (.int (if (vaR F S g (n + 1 - kn) kn y).1 then nI ((vaR F S g (n + 1 - kn) kn y).2.2 n).val else -1)))) := by
  refine ga_Ok.of 4 _ (by decide) rfl (Nat.le_of_ble_eq_true rfl) rfl ?_
  have hE := vh_eq (st := st) (kn := kn) (y := y) hB hv
  refine gr_aload_n dX7_at_0 rfl ?_
  refine gr_callV dX7_at_1 (c_greatestShift l E d _ B o F S hE) ysX1_greatestShift ⟨ml_X7_22, im_X1_greatestShift, sl_X1_greatestShift⟩ (eq_0 hE) (show vwCl[3]? = some (RX1, TX1, _) from rfl) rfl rfl (Nat.le_of_ble_eq_true rfl) ⟨(Nat.le_refl _), (Nat.le_refl _)⟩ ⟨(Nat.le_refl _), (Nat.le_refl _)⟩ (fun r0 h1 hp9 => ?_)
  obtain ⟨e1, q, rfl, hq⟩ := hp9
  subst h1
  refine gr_istore_n dX7_at_4 (by decide) rfl (gr_iload_n dX7_at_5 rfl ?_)
  refine gr_ifltN dX7_at_6 28 (by decide) (by omega) (gr_iload_n dX7_at_9 rfl (gr_sipush (v := nI 301) dX7_at_10 (by decide) ?_))
  refine gr_icmpgeN 28 dX7_at_13 (by decide) (by omega) (by decide) (fun z => absurd z (by omega)) (fun _ => ?_)
  refine gr_iload_n dX7_at_16 rfl ?_
  rcases hq0 : q with _ | g
  · refine gr_iflt 28 dX7_at_17 (by decide) (fun _ => ?_) (fun z => absurd (by decide) z)
    refine gr_iconst (v := -1) dX7_at_28 (by decide) ?_
    exact gr_ireturn dX7_at_29 rfl (Nat.le_refl _) (Nat.le_refl _) ⟨q, hq, Or.inl ⟨Or.inl hq0, rfl, rfl⟩⟩
  · have hg : g < 5 := by
      rcases hq with ⟨z, -⟩ | ⟨i, z, hi, -⟩
      · rw [hq0] at z; cases z
      · rw [hq0] at z; cases z; exact hi
    refine gr_ifltN dX7_at_17 28 (by decide) (by show g < 2 ^ 31; omega) (gr_aload_n dX7_at_20 rfl (gr_getf dX7_at_21 cls_X7 1 (by decide) fl_X7_15 vh_0 rfl (gr_iload_n dX7_at_24 rfl ?_)))
    refine gr_icmpgeN (b := g) 30 dX7_at_25 (by decide) (by omega) (by omega) (fun c_25 => ?_) (fun c_25 => ?_)
    · refine gr_aload_n dX7_at_30 rfl (gr_getf dX7_at_31 cls_X7 2 (by decide) fl_X7_19 vh_0 rfl (gr_istore dX7_at_34 (by decide) rfl ?_))
      exact c_va_loop l E d h va vn st hne B o F S hB hv n hn g hg _ _ (fun r0 h' z1 z2 => ⟨q, hq, Or.inr ⟨g, hq0, c_25, z1, z2⟩⟩) _ kn y _ _ rfl (by omega) (by omega) rfl
    · refine gr_iconst (v := -1) dX7_at_28 (by decide) ?_
      exact gr_ireturn dX7_at_29 rfl (Nat.le_refl _) (Nat.le_refl _) ⟨q, hq, Or.inl ⟨Or.inr ⟨g, hq0, c_25⟩, rfl, rfl⟩⟩
