/-! LinearSystem: eliminate, leftOver, copyParticularTo; Row; copyRowTo -/
def elC (C : Nat → Nat → zp) (c : Nat) (o : Option Nat) : Nat → Nat → zp := match o with
  | none => C
  | some i => clr (scl C i (zinv (C i c))) c i
def elU (u : Nat → Bool) (o : Option Nat) : Nat → Bool := match o with
  | none => u
  | some i => va_up u i true

set_option maxHeartbeats 4000000 in
set_option maxRecDepth 100000 in
theorem c_el_loop (l : Launch) (E : ga_E) (d : Nat) (h : ga_H) (A : Nat → Nat) (hA : ga_inj A 24) (t : Nat → zp) (I : Nat → (Nat → Nat → zp) → (Nat → Bool) → (Nat → Option Nat) → Prop) (hI : ∀ (c : Nat) (C : Nat → Nat → zp) (u : Nat → Bool) (pv : Nat → Option Nat) (o : Option Nat), c < 13 → I c C u pv → FL u C c o → I (c + 1) (elC C c o) (elU u o) (va_up pv c o)) : ∀ (g c : Nat) (C : Nat → Nat → zp) (u : Nat → Bool) (pv : Nat → Option Nat) (x2 : Option Value), c + g = 13 → I c C u pv → ga_G l E mX2_eliminate (ga_Rm (d + 2) 0 0) (ga_Z E (fun r0 h' => ∃ C' u' pv', I 13 C' u' pv' ∧ h' = lsH E h A C' u' pv' t ∧ r0 = none) 0 0) 23 [some (.ref (A 0)), some (.int (nI c)), x2] [] (lsH E h A C u pv t) 0 0 := by
  intro g
  induction g with
  | zero =>
    intro c C u pv x2 hg hc
    refine gr_iload_n dX2_eliminate_23 rfl (gr_bipush (v := nI 13) dX2_eliminate_24 (by decide) ?_)
    refine gr_icmpgeN 81 dX2_eliminate_26 (by decide) (by omega) (by decide) (fun _ => ?_) (fun z => absurd z (by omega))
    exact gr_return dX2_eliminate_81 rfl (Nat.le_refl _) (Nat.le_refl _) ⟨C, u, pv, by rw [show 13 = c by omega]; exact hc, rfl, rfl⟩
  | succ g ih =>
    intro c C u pv x2 hg hc
    refine gr_iload_n dX2_eliminate_23 rfl (gr_bipush (v := nI 13) dX2_eliminate_24 (by decide) ?_)
    refine gr_icmpgeN 81 dX2_eliminate_26 (by decide) (by omega) (by decide) (fun z => absurd z (by omega)) (fun _ => ?_)
    refine gr_aload_n dX2_eliminate_29 rfl ?_
    refine gr_iload_n dX2_eliminate_30 rfl ?_
    refine gr_callV dX2_eliminate_31 (c_freeLine l E (d + 1) h A hA C u pv t c (by omega)) ysX2_freeLine ⟨ml_X2_55, im_X2_freeLine, sl_X2_freeLine⟩ (ls_0 hA) (show vwCl[4]? = some (RX2, TX2, _) from rfl) rfl rfl (Nat.le_of_ble_eq_true rfl) ⟨(Nat.le_refl _), (Nat.le_refl _)⟩ ⟨(Nat.le_refl _), (Nat.le_refl _)⟩ (fun r0 h1 hp9 => ?_)
    obtain ⟨e1, o, rfl, hfl⟩ := hp9
    subst h1
    have hnx := hI c C u pv o (by omega) hc hfl
    refine gr_istore_n dX2_eliminate_34 (by decide) rfl ?_
    refine gr_aload_n dX2_eliminate_35 rfl ?_
    refine gr_getf dX2_eliminate_36 cls_X2 2 (by decide) fl_X2_20 (ls_0 hA) rfl ?_
    refine gr_iload_n dX2_eliminate_39 rfl ?_
    refine gr_iload_n dX2_eliminate_40 rfl ?_
    refine gr_iastore dX2_eliminate_41 (ls_22 hA) (by omega) (by decide) ?_
    rw [upd_o, ls_w22 hA]
    rcases hfl with ⟨rfl, -⟩ | ⟨i, rfl, hi, -, -⟩
    · refine gr_iload_n dX2_eliminate_42 rfl ?_
      refine gr_iflt 75 dX2_eliminate_43 (by decide) (fun _ => ?_) (fun z => absurd (by decide) z)
      refine gr_iinc (v := nI (_ + 1)) dX2_eliminate_75 rfl (nI_1 _) (by decide) rfl ?_
      refine gr_goto 23 dX2_eliminate_78 (by decide) ?_
      exact ih (c + 1) _ _ _ _ (by omega) hnx
    · refine gr_iload_n dX2_eliminate_42 rfl ?_
      refine gr_ifltN dX2_eliminate_43 75 (by decide) (by omega) ?_ --one
      refine gr_aload_n dX2_eliminate_46 rfl ?_
      refine gr_getf dX2_eliminate_47 cls_X2 1 (by decide) fl_X2_16 (ls_0 hA) rfl ?_
      refine gr_iload_n dX2_eliminate_50 rfl ?_
      refine gr_iconst (v := bI true) dX2_eliminate_51 rfl ?_
      refine gr_zastore dX2_eliminate_52 (ls_21 hA) (by omega) (by decide) (bI_nar true) ?_
      rw [upd_b, ls_w21 hA]
      refine gr_aload_n dX2_eliminate_53 rfl ?_
      refine gr_iload_n dX2_eliminate_54 rfl ?_
      refine gr_aload_n dX2_eliminate_55 rfl ?_
      refine gr_getf dX2_eliminate_56 cls_X2 0 (by decide) fl_X2_11 (ls_0 hA) rfl ?_
      refine gr_iload_n dX2_eliminate_59 rfl ?_
      refine gr_aaloadI dX2_eliminate_60 (ls_1 hA) (by omega) (by decide) (ls_R (by omega)) ?_
      refine gr_iload_n dX2_eliminate_61 rfl ?_
      refine gr_ialoadF dX2_eliminate_62 (ls_r hA (by omega)) (by omega) (by decide) ?_
      refine gr_callS dX2_eliminate_63 (c_inverse l E (d + 1) _ (C i c)) ysX3_inverse ⟨ml_X2_58, sm_X3_inverse⟩ rfl rfl (Nat.le_of_ble_eq_true rfl) ⟨(Nat.le_refl _), (Nat.le_refl _)⟩ ⟨(Nat.le_refl _), (Nat.le_refl _)⟩ (fun r0 h1 hp9 => ?_)
      obtain ⟨e1, rfl⟩ := hp9
      subst h1
      refine gr_callV dX2_eliminate_66 (c_scaleLine l E (d + 1) h A hA C _ _ t i hi _) ysX2_scaleLine ⟨ml_X2_61, im_X2_scaleLine, sl_X2_scaleLine⟩ (ls_0 hA) (show vwCl[4]? = some (RX2, TX2, _) from rfl) rfl rfl (Nat.le_of_ble_eq_true rfl) ⟨(Nat.le_refl _), (Nat.le_refl _)⟩ ⟨(Nat.le_refl _), (Nat.le_refl _)⟩ (fun r0 h1 hp9 => ?_)
      obtain ⟨e1, rfl⟩ := hp9
      subst h1
      refine gr_aload_n dX2_eliminate_69 rfl ?_
      refine gr_iload_n dX2_eliminate_70 rfl ?_
      refine gr_iload_n dX2_eliminate_71 rfl ?_
      refine gr_callV dX2_eliminate_72 (c_clearColumn l E d h A hA _ _ _ t c i (by omega) hi) ysX2_clearColumn ⟨ml_X2_65, im_X2_clearColumn, sl_X2_clearColumn⟩ (ls_0 hA) (show vwCl[4]? = some (RX2, TX2, _) from rfl) rfl rfl (Nat.le_of_ble_eq_true rfl) ⟨(Nat.le_refl _), (Nat.le_refl _)⟩ ⟨(Nat.le_refl _), (Nat.le_refl _)⟩ (fun r0 h1 hp9 => ?_)
      obtain ⟨e1, rfl⟩ := hp9
      subst h1
      refine gr_iinc (v := nI (_ + 1)) dX2_eliminate_75 rfl (nI_1 _) (by decide) rfl ?_
      refine gr_goto 23 dX2_eliminate_78 (by decide) ?_
      exact ih (c + 1) _ _ _ _ (by omega) hnx

set_option maxHeartbeats 4000000 in
set_option maxRecDepth 100000 in
theorem c_el_zero (l : Launch) (E : ga_E) (d : Nat) (h : ga_H) (A : Nat → Nat) (hA : ga_inj A 24) (t : Nat → zp) (I : Nat → (Nat → Nat → zp) → (Nat → Bool) → (Nat → Option Nat) → Prop) (hI : ∀ (c : Nat) (C : Nat → Nat → zp) (u : Nat → Bool) (pv : Nat → Option Nat) (o : Option Nat), c < 13 → I c C u pv → FL u C c o → I (c + 1) (elC C c o) (elU u o) (va_up pv c o)) (C : Nat → Nat → zp) (pv : Nat → Option Nat) (h0 : ∀ u : Nat → Bool, (∀ j, j < 19 → u j = false) → I 0 C u pv) : ∀ (g a : Nat) (u : Nat → Bool), a + g = 19 → (∀ j, j < a → u j = false) → ga_G l E mX2_eliminate (ga_Rm (d + 2) 0 0) (ga_Z E (fun r0 h' => ∃ C' u' pv', I 13 C' u' pv' ∧ h' = lsH E h A C' u' pv' t ∧ r0 = none) 0 0) 2 [some (.ref (A 0)), some (.int (nI a)), none] [] (lsH E h A C u pv t) 0 0 := by
  intro g
  induction g with
  | zero =>
    intro a u hg hlt
    refine gr_iload_n dX2_eliminate_2 rfl (gr_bipush (v := nI 19) dX2_eliminate_3 (by decide) ?_)
    refine gr_icmpgeN 21 dX2_eliminate_5 (by decide) (by omega) (by decide) (fun _ => ?_) (fun z => absurd z (by omega))
    refine gr_iconst (v := nI 0) dX2_eliminate_21 rfl (gr_istore_n dX2_eliminate_22 (by decide) rfl ?_)
    exact c_el_loop l E d h A hA t I hI 13 0 C u pv _ (by omega) (h0 u (fun j hj => hlt j (by omega)))
  | succ g ih =>
    intro a u hg hlt
    refine gr_iload_n dX2_eliminate_2 rfl (gr_bipush (v := nI 19) dX2_eliminate_3 (by decide) ?_)
    refine gr_icmpgeN 21 dX2_eliminate_5 (by decide) (by omega) (by decide) (fun z => absurd z (by omega)) (fun _ => ?_)
    refine gr_aload_n dX2_eliminate_8 rfl ?_
    refine gr_getf dX2_eliminate_9 cls_X2 1 (by decide) fl_X2_16 (ls_0 hA) rfl ?_
    refine gr_iload_n dX2_eliminate_12 rfl ?_
    refine gr_iconst (v := bI false) dX2_eliminate_13 rfl ?_
    refine gr_zastore dX2_eliminate_14 (ls_21 hA) (by omega) (by decide) (bI_nar false) ?_
    rw [upd_b, ls_w21 hA]
    refine gr_iinc (v := nI (_ + 1)) dX2_eliminate_15 rfl (nI_1 _) (by decide) rfl ?_
    refine gr_goto 2 dX2_eliminate_18 (by decide) ?_
    refine ih (a + 1) _ (by omega) (fun j hj => ?_)
    by_cases e : j = a
    · exact if_pos e
    · exact (if_neg e : va_up u a false j = u j).trans (hlt j (by omega))

set_option maxHeartbeats 4000000 in
set_option maxRecDepth 100000 in
theorem c_eliminate (l : Launch) (E : ga_E) (d : Nat) (h : ga_H) (A : Nat → Nat) (hA : ga_inj A 24) (t : Nat → zp) (I : Nat → (Nat → Nat → zp) → (Nat → Bool) → (Nat → Option Nat) → Prop) (hI : ∀ (c : Nat) (C : Nat → Nat → zp) (u : Nat → Bool) (pv : Nat → Option Nat) (o : Option Nat), c < 13 → I c C u pv → FL u C c o → I (c + 1) (elC C c o) (elU u o) (va_up pv c o)) (C : Nat → Nat → zp) (pv : Nat → Option Nat) (h0 : ∀ u : Nat → Bool, (∀ j, j < 19 → u j = false) → I 0 C u pv) (u : Nat → Bool) : ga_Ok l E (d + 2) mX2_eliminate [.ref (A 0)] (lsH E h A C u pv t) 0 0 (fun r0 h' => ∃ C' u' pv', I 13 C' u' pv' ∧ h' = lsH E h A C' u' pv' t ∧ r0 = none) := by
  refine ga_Ok.of 2 _ (by decide) rfl (Nat.le_of_ble_eq_true rfl) rfl ?_
  refine gr_iconst (v := nI 0) dX2_eliminate_0 rfl (gr_istore_n dX2_eliminate_1 (by decide) rfl ?_)
  exact c_el_zero l E d h A hA t I hI C pv h0 19 0 u (by omega) (fun j hj => absurd hj (by omega))

set_option maxHeartbeats 4000000 in
set_option maxRecDepth 100000 in
theorem c_lo_loop (l : Launch) (E : ga_E) (d : Nat) (h : ga_H) (A : Nat → Nat) (hA : ga_inj A 24) (C : Nat → Nat → zp) (u : Nat → Bool) (pv : Nat → Option Nat) (t : Nat → zp) (b : Nat) (q : Nat → zp) (hbb : lsH E h A C u pv t b = some (ga_f E 13 q)) (i : Nat) (hi : i < 19) : ∀ (g k : Nat), k + g = 13 → ga_G l E mX2_leftOver (ga_Rm (d + 1) 0 0) (ga_Z E (fun r0 h' => h' = lsH E h A C u pv t ∧ r0 = some (.int (nI (-(C i 13) + zs 13 (fun k => C i k * q k)).val))) 0 0) 28 [some (.ref (A 0)), some (.ref b), some (.int (nI i)), some (.int (nI (-(C i 13) + zs k (fun k => C i k * q k)).val)), some (.int (nI k))] [] (lsH E h A C u pv t) 0 0 := by
  intro g
  induction g with
  | zero =>
    intro k hk
    refine gr_iload dX2_leftOver_28 rfl (gr_bipush (v := nI 13) dX2_leftOver_30 (by decide) ?_)
    refine gr_icmpgeN 69 dX2_leftOver_32 (by decide) (by omega) (by decide) (fun _ => ?_) (fun z => absurd z (by omega))
    refine gr_iload_n dX2_leftOver_69 rfl ?_
    exact gr_ireturn dX2_leftOver_70 rfl (Nat.le_refl _) (Nat.le_refl _) ⟨rfl, by rw [show k = 13 by omega]⟩
  | succ g ih =>
    intro k hk
    refine gr_iload dX2_leftOver_28 rfl (gr_bipush (v := nI 13) dX2_leftOver_30 (by decide) ?_)
    refine gr_icmpgeN 69 dX2_leftOver_32 (by decide) (by omega) (by decide) (fun z => absurd z (by omega)) (fun _ => ?_)
    refine gr_iload dX2_leftOver_35 rfl ?_
    refine gr_aload_n dX2_leftOver_37 rfl ?_
    refine gr_alen_i dX2_leftOver_38 hbb ?_
    refine gr_icmpgeN 69 dX2_leftOver_39 (by decide) (by omega) (by decide) (fun z => absurd z (by omega)) (fun _ => ?_)
    refine gr_iload_n dX2_leftOver_42 rfl ?_
    refine gr_aload_n dX2_leftOver_43 rfl ?_
    refine gr_getf dX2_leftOver_44 cls_X2 0 (by decide) fl_X2_11 (ls_0 hA) rfl ?_
    refine gr_iload_n dX2_leftOver_47 rfl ?_
    refine gr_aaloadI dX2_leftOver_48 (ls_1 hA) (by omega) (by decide) (ls_R (by omega)) ?_
    refine gr_iload dX2_leftOver_49 rfl ?_
    refine gr_ialoadF dX2_leftOver_51 (ls_r hA (by omega)) (by omega) (by decide) ?_
    refine gr_aload_n dX2_leftOver_52 rfl ?_
    refine gr_iload dX2_leftOver_53 rfl ?_
    refine gr_ialoadF dX2_leftOver_55 hbb (by omega) (by decide) ?_
    refine gr_imulN dX2_leftOver_56 ?_
    refine gr_iaddN dX2_leftOver_57 ?_
    refine gr_remP dX2_leftOver_58 dX2_leftOver_61 (by have := zmul_lt (C i k) (q k); have := zl (-(C i 13) + zs k (fun k => C i k * q k)); omega) (zmad2 _ _ _) ?_
    refine gr_istore_n dX2_leftOver_62 (by decide) rfl ?_
    refine gr_iinc (v := nI (_ + 1)) dX2_leftOver_63 rfl (nI_1 _) (by decide) rfl ?_
    refine gr_goto 28 dX2_leftOver_66 (by decide) ?_
    rw [show -(C i 13) + zs k (fun k => C i k * q k) + C i k * q k = -(C i 13) + zs (k + 1) (fun k => C i k * q k) by show _ = -(C i 13) + (zs k _ + _); grind]
    exact ih (k + 1) (by omega)

set_option maxHeartbeats 4000000 in
set_option maxRecDepth 100000 in
theorem c_leftOver (l : Launch) (E : ga_E) (d : Nat) (h : ga_H) (A : Nat → Nat) (hA : ga_inj A 24) (C : Nat → Nat → zp) (u : Nat → Bool) (pv : Nat → Option Nat) (t : Nat → zp) (b : Nat) (q : Nat → zp) (hbb : lsH E h A C u pv t b = some (ga_f E 13 q)) (i : Nat) (hi : i < 19) : ga_Ok l E (d + 1) mX2_leftOver [.ref (A 0), .ref b, .int (nI i)] (lsH E h A C u pv t) 0 0 (fun r0 h' => h' = lsH E h A C u pv t ∧ r0 = some (.int (nI (-(C i 13) + zs 13 (fun k => C i k * q k)).val))) := by
  refine ga_Ok.of 2 _ (by decide) rfl (Nat.le_of_ble_eq_true rfl) rfl ?_
  refine gr_iload_n dX2_leftOver_0 rfl ?_
  refine gr_ifltN dX2_leftOver_1 10 (by decide) (by omega) ?_ --one
  refine gr_iload_n dX2_leftOver_4 rfl ?_
  refine gr_bipush (v := nI 19) dX2_leftOver_5 (by decide) ?_
  refine gr_icmpltN 12 dX2_leftOver_7 (by decide) (by omega) (by decide) (fun _ => ?_) (fun z => absurd z (by omega))
  refine gr_aload_n dX2_leftOver_12 rfl ?_
  refine gr_getf dX2_leftOver_13 cls_X2 0 (by decide) fl_X2_11 (ls_0 hA) rfl ?_
  refine gr_iload_n dX2_leftOver_16 rfl ?_
  refine gr_aaloadI dX2_leftOver_17 (ls_1 hA) (by omega) (by decide) (ls_R (by omega)) ?_
  refine gr_bipush (v := nI 13) dX2_leftOver_18 (by decide) ?_
  refine gr_ialoadF dX2_leftOver_20 (ls_r hA (by omega)) (by omega) (by decide) ?_
  refine gr_callS dX2_leftOver_21 (c_negative l E d _ (C i 13)) ysX3_negative ⟨ml_X2_49, sm_X3_negative⟩ rfl rfl (Nat.le_of_ble_eq_true rfl) ⟨(Nat.le_refl _), (Nat.le_refl _)⟩ ⟨(Nat.le_refl _), (Nat.le_refl _)⟩ (fun r0 h1 hp9 => ?_)
  obtain ⟨e1, rfl⟩ := hp9
  subst h1
  refine gr_istore_n dX2_leftOver_24 (by decide) rfl ?_
  refine gr_iconst (v := nI 0) dX2_leftOver_25 rfl ?_
  refine gr_istore dX2_leftOver_26 (by decide) rfl ?_
  refine gr_lv (show _ = [some (.ref (A 0)), some (.ref b), some (.int (nI i)), some (.int (nI (-(C i 13) + zs 0 (fun k => C i k * q k)).val)), some (.int (nI 0))] by rw [show -(C i 13) + zs 0 (fun k => C i k * q k) = -(C i 13) by show _ + 0 = _; grind]; rfl) ?_
  exact c_lo_loop l E d h A hA C u pv t b q hbb i hi 13 0 (by omega)

/-- the numbers of the particular answer, the first k of them *)-/
def ptI (C : Nat → Nat → zp) (pv : Nat → Option Nat) (q : Nat → zp) (k : Nat) : Nat → zp := fun j => if j < k then (match pv j with | some i => C i 13 | none => 0) else q j
theorem ptI_up {C : Nat → Nat → zp} {pv : Nat → Option Nat} {q : Nat → zp} {k : Nat} {x : zp} (h : x = match pv k with | some i => C i 13 | none => 0) : va_up (ptI C pv q k) k x = ptI C pv q (k + 1) := by
  funext j; unfold va_up ptI
  by_cases e : j = k
  · subst e; rw [if_pos rfl, if_pos (by omega), h]
  · by_cases h2 : j < k
    · rw [if_neg e, if_pos h2, if_pos (by omega)]
    · rw [if_neg e, if_neg h2, if_neg (by omega)]
theorem ptI_0 (C : Nat → Nat → zp) (pv : Nat → Option Nat) (q : Nat → zp) : ptI C pv q 0 = q := by
  funext j; unfold ptI; rw [if_neg (by omega)]

set_option maxHeartbeats 4000000 in
set_option maxRecDepth 100000 in
theorem c_cp_loop (l : Launch) (E : ga_E) (d : Nat) (h : ga_H) (A : Nat → Nat) (hA : ga_inj A 24) (C : Nat → Nat → zp) (u : Nat → Bool) (pv : Nat → Option Nat) (t : Nat → zp) (b : Nat) (hbA : ∀ k, k < 24 → b ≠ A k) (q : Nat → zp) (hpv : ∀ j i, j < 13 → pv j = some i → i < 19) (hu : ∀ i, i < 19 → u i = true ∨ C i 13 = 0) : ∀ (g k : Nat) (x3 : Option Value), k + g = 13 → ga_G l E mX2_copyParticularTo (ga_Rm d 0 0) (ga_Z E (fun r0 h' => (∃ i, i < 19 ∧ u i = false ∧ C i 13 ≠ 0) ∧ h' = lsH E h A C u pv t ∧ r0 = some (.int (nI 0)) ∨ (∀ i, i < 19 → u i = true ∨ C i 13 = 0) ∧ h' = lsH E (ga_up h b (ga_f E 13 (ptI C pv q 13))) A C u pv t ∧ r0 = some (.int (nI 1))) 0 0) 39 [some (.ref (A 0)), some (.ref b), some (.int (nI k)), x3] [] (lsH E (ga_up h b (ga_f E 13 (ptI C pv q k))) A C u pv t) 0 0 := by
  intro g
  induction g with
  | zero =>
    intro k x3 hk
    refine gr_iload_n dX2_copyParticularTo_39 rfl (gr_bipush (v := nI 13) dX2_copyParticularTo_40 (by decide) ?_)
    refine gr_icmpgeN 84 dX2_copyParticularTo_42 (by decide) (by omega) (by decide) (fun _ => ?_) (fun z => absurd z (by omega))
    refine gr_iconst (v := nI 1) dX2_copyParticularTo_84 rfl ?_
    exact gr_zreturn dX2_copyParticularTo_85 rfl (by decide) (Nat.le_refl _) (Nat.le_refl _) (Or.inr ⟨hu, by rw [show k = 13 by omega], rfl⟩)
  | succ g ih =>
    intro k x3 hk
    refine gr_iload_n dX2_copyParticularTo_39 rfl (gr_bipush (v := nI 13) dX2_copyParticularTo_40 (by decide) ?_)
    refine gr_icmpgeN 84 dX2_copyParticularTo_42 (by decide) (by omega) (by decide) (fun z => absurd z (by omega)) (fun _ => ?_)
    refine gr_iload_n dX2_copyParticularTo_45 rfl ?_
    refine gr_aload_n dX2_copyParticularTo_46 rfl ?_
    refine gr_alen_i dX2_copyParticularTo_47 ((ga_ov_out hbA).trans ga_up_eq) ?_
    refine gr_icmpgeN 84 dX2_copyParticularTo_48 (by decide) (by omega) (by decide) (fun z => absurd z (by omega)) (fun _ => ?_)
    refine gr_aload_n dX2_copyParticularTo_51 rfl ?_
    refine gr_getf dX2_copyParticularTo_52 cls_X2 2 (by decide) fl_X2_20 (ls_0 hA) rfl ?_
    refine gr_iload_n dX2_copyParticularTo_55 rfl ?_
    refine gr_iaload dX2_copyParticularTo_56 (ls_22 hA) (by omega) (by decide) ?_
    refine gr_istore_n dX2_copyParticularTo_57 (by decide) rfl ?_
    refine gr_aload_n dX2_copyParticularTo_58 rfl ?_
    refine gr_iload_n dX2_copyParticularTo_59 rfl ?_
    refine gr_iload_n dX2_copyParticularTo_60 rfl ?_
    rcases hk : pv k with _ | i
    · refine gr_iflt 76 dX2_copyParticularTo_61 (by decide) (fun _ => ?_) (fun z => absurd (by decide) z)
      refine gr_iconst (v := nI (0 : zp).val) dX2_copyParticularTo_76 rfl ?_
      refine gr_iastoreF dX2_copyParticularTo_77 ((ga_ov_out hbA).trans ga_up_eq) (by omega) (by decide) ?_
      rw [show ga_up (lsH E (ga_up h b (ga_f E 13 (ptI C pv q k))) A C u pv t) b _ = lsH E (ga_up (ga_up h b (ga_f E 13 (ptI C pv q k))) b _) A C u pv t from ga_ov_base hbA, ga_up_up, ptI_up (by rw [hk])]
      refine gr_iinc (v := nI (_ + 1)) dX2_copyParticularTo_78 rfl (nI_1 _) (by decide) rfl ?_
      refine gr_goto 39 dX2_copyParticularTo_81 (by decide) ?_
      exact ih (k + 1) _ (by omega)
    · have hi := hpv k i (by omega) hk
      refine gr_ifltN dX2_copyParticularTo_61 76 (by decide) (by show i < 2 ^ 31; omega) ?_
      refine gr_aload_n dX2_copyParticularTo_64 rfl (gr_getf dX2_copyParticularTo_65 cls_X2 0 (by decide) fl_X2_11 (ls_0 hA) rfl (gr_iload_n dX2_copyParticularTo_68 rfl ?_))
      refine gr_aaloadI dX2_copyParticularTo_69 (ls_1 hA) hi (by decide) (ls_R hi) (gr_bipush (v := nI 13) dX2_copyParticularTo_70 (by decide) (gr_ialoadF dX2_copyParticularTo_72 (ls_r hA hi) (by decide) (by decide) (gr_goto 77 dX2_copyParticularTo_73 (by decide) ?_)))
      refine gr_iastoreF dX2_copyParticularTo_77 ((ga_ov_out hbA).trans ga_up_eq) (by omega) (by decide) ?_
      rw [show ga_up (lsH E (ga_up h b (ga_f E 13 (ptI C pv q k))) A C u pv t) b _ = lsH E (ga_up (ga_up h b (ga_f E 13 (ptI C pv q k))) b _) A C u pv t from ga_ov_base hbA, ga_up_up, ptI_up (by rw [hk])]
      refine gr_iinc (v := nI (_ + 1)) dX2_copyParticularTo_78 rfl (nI_1 _) (by decide) rfl ?_
      refine gr_goto 39 dX2_copyParticularTo_81 (by decide) ?_
      exact ih (k + 1) _ (by omega)

set_option maxHeartbeats 4000000 in
set_option maxRecDepth 100000 in
theorem c_cp_scan (l : Launch) (E : ga_E) (d : Nat) (h : ga_H) (A : Nat → Nat) (hA : ga_inj A 24) (C : Nat → Nat → zp) (u : Nat → Bool) (pv : Nat → Option Nat) (t : Nat → zp) (b : Nat) (hbA : ∀ k, k < 24 → b ≠ A k) (q : Nat → zp) (hpv : ∀ j i, j < 13 → pv j = some i → i < 19) (hb : h b = some (ga_f E 13 q)) : ∀ (g i : Nat), i + g = 19 → (∀ j, j < i → u j = true ∨ C j 13 = 0) → ga_G l E mX2_copyParticularTo (ga_Rm d 0 0) (ga_Z E (fun r0 h' => (∃ i, i < 19 ∧ u i = false ∧ C i 13 ≠ 0) ∧ h' = lsH E h A C u pv t ∧ r0 = some (.int (nI 0)) ∨ (∀ i, i < 19 → u i = true ∨ C i 13 = 0) ∧ h' = lsH E (ga_up h b (ga_f E 13 (ptI C pv q 13))) A C u pv t ∧ r0 = some (.int (nI 1))) 0 0) 2 [some (.ref (A 0)), some (.ref b), some (.int (nI i)), none] [] (lsH E h A C u pv t) 0 0 := by
  intro g
  induction g with
  | zero =>
    intro i hi hlt
    refine gr_iload_n dX2_copyParticularTo_2 rfl (gr_bipush (v := nI 19) dX2_copyParticularTo_3 (by decide) ?_)
    refine gr_icmpgeN 37 dX2_copyParticularTo_5 (by decide) (by omega) (by decide) (fun _ => ?_) (fun z => absurd z (by omega))
    refine gr_iconst (v := nI 0) dX2_copyParticularTo_37 rfl (gr_istore_n dX2_copyParticularTo_38 (by decide) rfl ?_)
    refine gr_h (show lsH E h A C u pv t = lsH E (ga_up h b (ga_f E 13 (ptI C pv q 0))) A C u pv t by rw [ptI_0, ga_up_self hb]) ?_
    exact c_cp_loop l E d h A hA C u pv t b hbA q hpv (fun j hj => hlt j (by omega)) 13 0 _ (by omega)
  | succ g ih =>
    intro i hi hlt
    refine gr_iload_n dX2_copyParticularTo_2 rfl (gr_bipush (v := nI 19) dX2_copyParticularTo_3 (by decide) ?_)
    refine gr_icmpgeN 37 dX2_copyParticularTo_5 (by decide) (by omega) (by decide) (fun z => absurd z (by omega)) (fun _ => ?_)
    refine gr_aload_n dX2_copyParticularTo_8 rfl ?_
    refine gr_getf dX2_copyParticularTo_9 cls_X2 1 (by decide) fl_X2_16 (ls_0 hA) rfl ?_
    refine gr_iload_n dX2_copyParticularTo_12 rfl ?_
    refine gr_zaload dX2_copyParticularTo_13 (ls_21 hA) (by omega) (by decide) ?_
    refine gr_ifne 31 dX2_copyParticularTo_14 (by decide) (fun c_14 => ?_) (fun c_14 => ?_)
    · refine gr_iinc (v := nI (_ + 1)) dX2_copyParticularTo_31 rfl (nI_1 _) (by decide) rfl ?_
      refine gr_goto 2 dX2_copyParticularTo_34 (by decide) ?_
      refine ih (i + 1) (by omega) (fun j hj => ?_)
      by_cases e : j = i
      · subst e
        first
          | exact Or.inr (Fin.ext c_26)
          | exact Or.inl (by cases e : u j with
              | true => rfl
              | false => rw [e] at c_14; exact absurd rfl c_14)
      · exact hlt j (by omega)
    · refine gr_aload_n dX2_copyParticularTo_17 rfl ?_
      refine gr_getf dX2_copyParticularTo_18 cls_X2 0 (by decide) fl_X2_11 (ls_0 hA) rfl ?_
      refine gr_iload_n dX2_copyParticularTo_21 rfl ?_
      refine gr_aaloadI dX2_copyParticularTo_22 (ls_1 hA) (by omega) (by decide) (ls_R (by omega)) ?_
      refine gr_bipush (v := nI 13) dX2_copyParticularTo_23 (by decide) ?_
      refine gr_ialoadF dX2_copyParticularTo_25 (ls_r hA (by omega)) (by omega) (by decide) ?_
      refine gr_ifeqN 31 dX2_copyParticularTo_26 (by decide) (by have := zl (C i 13); omega) (fun c_26 => ?_) (fun c_26 => ?_)
      · refine gr_iinc (v := nI (_ + 1)) dX2_copyParticularTo_31 rfl (nI_1 _) (by decide) rfl ?_
        refine gr_goto 2 dX2_copyParticularTo_34 (by decide) ?_
        refine ih (i + 1) (by omega) (fun j hj => ?_)
        by_cases e : j = i
        · subst e
          first
            | exact Or.inr (Fin.ext c_26)
            | exact Or.inl (by cases e : u j with
                | true => rfl
                | false => rw [e] at c_14; exact absurd rfl c_14)
        · exact hlt j (by omega)
      · refine gr_iconst (v := nI 0) dX2_copyParticularTo_29 rfl ?_
        exact gr_zreturn dX2_copyParticularTo_30 rfl (by decide) (Nat.le_refl _) (Nat.le_refl _) (Or.inl ⟨⟨i, by omega, by cases e : u i with
          | false => rfl
          | true => rw [e] at c_14; exact absurd c_14 (by decide), fun z => c_26 (by rw [z]; rfl)⟩, rfl, rfl⟩)

set_option maxHeartbeats 4000000 in
set_option maxRecDepth 100000 in
theorem c_copyParticularTo (l : Launch) (E : ga_E) (d : Nat) (h : ga_H) (A : Nat → Nat) (hA : ga_inj A 24) (C : Nat → Nat → zp) (u : Nat → Bool) (pv : Nat → Option Nat) (t : Nat → zp) (b : Nat) (hbA : ∀ k, k < 24 → b ≠ A k) (q : Nat → zp) (hpv : ∀ j i, j < 13 → pv j = some i → i < 19) (hb : h b = some (ga_f E 13 q)) : ga_Ok l E d mX2_copyParticularTo [.ref (A 0), .ref b] (lsH E h A C u pv t) 0 0 (fun r0 h' => (∃ i, i < 19 ∧ u i = false ∧ C i 13 ≠ 0) ∧ h' = lsH E h A C u pv t ∧ r0 = some (.int (nI 0)) ∨ (∀ i, i < 19 → u i = true ∨ C i 13 = 0) ∧ h' = lsH E (ga_up h b (ga_f E 13 (ptI C pv q 13))) A C u pv t ∧ r0 = some (.int (nI 1))) := by
  refine ga_Ok.of 2 _ (by decide) rfl (Nat.le_of_ble_eq_true rfl) rfl ?_
  refine gr_iconst (v := nI 0) dX2_copyParticularTo_0 rfl (gr_istore_n dX2_copyParticularTo_1 (by decide) rfl ?_)
  exact c_cp_scan l E d h A hA C u pv t b hbA q hpv hb 19 0 (by omega) (fun j hj => absurd hj (by omega))
