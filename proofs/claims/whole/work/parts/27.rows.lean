/-! Row; copyRowTo; addFactor; fill -/

set_option maxHeartbeats 4000000 in
set_option maxRecDepth 100000 in
theorem c_numberAt (l : Launch) (E : ga_E) (d : Nat) (h : ga_H) (rw_ rn : Nat) (x0 : Int32) (v : Nat → zp) (hr : h rw_ = some (ga_o 6 [.ref rn, .int x0])) (hn : h rn = some (ga_f E 169 v)) (k j : Nat) (hk : k < 13) (hj : j < 13) : ga_Ok l E d mX6_numberAt [.ref rw_, .int (nI k), .int (nI j)] h 0 0 (fun r0 h' => h' = h ∧ r0 = some (.int (nI (v (k * 13 + j)).val))) := by
  refine ga_Ok.of 1 _ (by decide) rfl (Nat.le_of_ble_eq_true rfl) rfl ?_
  refine gr_iload_n dX6_numberAt_0 rfl ?_
  refine gr_bipush (v := nI 13) dX6_numberAt_1 (by decide) ?_
  refine gr_imulN dX6_numberAt_3 ?_
  refine gr_iload_n dX6_numberAt_4 rfl ?_
  refine gr_iaddN dX6_numberAt_5 ?_
  refine gr_istore_n dX6_numberAt_6 (by decide) rfl ?_
  refine gr_iload_n dX6_numberAt_7 rfl ?_
  refine gr_ifltN dX6_numberAt_8 20 (by decide) (by omega) ?_ --one
  refine gr_iload_n dX6_numberAt_11 rfl ?_
  refine gr_aload_n dX6_numberAt_12 rfl ?_
  refine gr_getf dX6_numberAt_13 cls_X6 0 (by decide) fl_X6_9 hr rfl ?_
  refine gr_alen_i dX6_numberAt_16 hn ?_
  refine gr_icmpltN 24 dX6_numberAt_17 (by decide) (by omega) (by decide) (fun _ => ?_) (fun z => absurd z (by omega))
  refine gr_aload_n dX6_numberAt_24 rfl ?_
  refine gr_getf dX6_numberAt_25 cls_X6 0 (by decide) fl_X6_9 hr rfl ?_
  refine gr_iload_n dX6_numberAt_28 rfl ?_
  refine gr_ialoadF dX6_numberAt_29 hn (by omega) (by decide) ?_
  exact gr_ireturn dX6_numberAt_30 rfl (Nat.le_refl _) (Nat.le_refl _) ⟨rfl, rfl⟩

set_option maxHeartbeats 4000000 in
set_option maxRecDepth 100000 in
theorem c_setNumberAt (l : Launch) (E : ga_E) (d : Nat) (h : ga_H) (rw_ rn : Nat) (x0 : Int32) (v : Nat → zp) (hr : h rw_ = some (ga_o 6 [.ref rn, .int x0])) (hn : h rn = some (ga_f E 169 v)) (k j : Nat) (hk : k < 13) (hj : j < 13) (x : zp) : ga_Ok l E d mX6_setNumberAt [.ref rw_, .int (nI k), .int (nI j), .int (nI x.val)] h 0 0 (fun r0 h' => h' = ga_up h rn (ga_f E 169 (va_up v (k * 13 + j) x)) ∧ r0 = none) := by
  refine ga_Ok.of 1 _ (by decide) rfl (Nat.le_of_ble_eq_true rfl) rfl ?_
  refine gr_iload_n dX6_setNumberAt_0 rfl ?_
  refine gr_bipush (v := nI 13) dX6_setNumberAt_1 (by decide) ?_
  refine gr_imulN dX6_setNumberAt_3 ?_
  refine gr_iload_n dX6_setNumberAt_4 rfl ?_
  refine gr_iaddN dX6_setNumberAt_5 ?_
  refine gr_istore dX6_setNumberAt_6 (by decide) rfl ?_
  refine gr_iload dX6_setNumberAt_8 rfl ?_
  refine gr_ifltN dX6_setNumberAt_10 31 (by decide) (by omega) ?_ --one
  refine gr_iload dX6_setNumberAt_13 rfl ?_
  refine gr_aload_n dX6_setNumberAt_15 rfl ?_
  refine gr_getf dX6_setNumberAt_16 cls_X6 0 (by decide) fl_X6_9 hr rfl ?_
  refine gr_alen_i dX6_setNumberAt_19 hn ?_
  refine gr_icmpgeN 31 dX6_setNumberAt_20 (by decide) (by omega) (by decide) (fun z => absurd z (by omega)) (fun _ => ?_)
  refine gr_aload_n dX6_setNumberAt_23 rfl ?_
  refine gr_getf dX6_setNumberAt_24 cls_X6 0 (by decide) fl_X6_9 hr rfl ?_
  refine gr_iload dX6_setNumberAt_27 rfl ?_
  refine gr_iload_n dX6_setNumberAt_29 rfl ?_
  refine gr_iastoreF dX6_setNumberAt_30 hn (by omega) (by decide) ?_
  exact gr_return dX6_setNumberAt_31 rfl (Nat.le_refl _) (Nat.le_refl _) ⟨rfl, rfl⟩

/-- how many columns below n have no pivot -/
def cnt (pv : Nat → Option Nat) : Nat → Nat
  | 0 => 0
  | n + 1 => if pv n = none then cnt pv n + 1 else cnt pv n
theorem cnt_s (pv : Nat → Option Nat) (n : Nat) : cnt pv (n + 1) = if pv n = none then cnt pv n + 1 else cnt pv n := rfl
theorem cnt_le (pv : Nat → Option Nat) : ∀ n, cnt pv n ≤ n
  | 0 => Nat.le_refl _
  | n + 1 => by have := cnt_le pv n; rw [cnt_s]; split <;> omega
theorem cnt_mono {pv : Nat → Option Nat} {f : Nat} : ∀ {n : Nat}, f < n → pv f = none → cnt pv f + 1 ≤ cnt pv n
  | 0, h, _ => absurd h (by omega)
  | n + 1, h, hf => by
    by_cases e : f = n
    · subst e; rw [cnt_s, if_pos hf]; exact Nat.le_refl _
    · have := cnt_mono (pv := pv) (n := n) (by omega) hf
      rw [cnt_s]; split <;> omega
/-- the answer with head f -/
def vecF (C : Nat → Nat → zp) (pv : Nat → Option Nat) (f j : Nat) : zp := if j = f then 1 else match pv j with
  | some i => -(C i f)
  | none => 0
def rwB (E : ga_E) (h : ga_H) (rw_ rn sz : Nat) (v : Nat → zp) : ga_H := ga_up (ga_up h rn (ga_f E 169 v)) rw_ (ga_o 6 [.ref rn, .int (nI sz)])
/-- the heads below n stand in the row -/
def rwOk (C : Nat → Nat → zp) (pv : Nat → Option Nat) (v : Nat → zp) (n : Nat) : Prop := ∀ f, f < n → pv f = none → ∀ j, j < 13 → v (cnt pv f * 13 + j) = vecF C pv f j
theorem rwB_n {E : ga_E} {h : ga_H} {rw_ rn sz : Nat} {v : Nat → zp} (hne : rn ≠ rw_) (x : Nat → zp) : ga_up (rwB E h rw_ rn sz v) rn (ga_f E 169 x) = rwB E h rw_ rn sz x := by
  unfold rwB
  rw [ga_up_comm _ _ _ (fun z => hne z.symm), ga_up_up]
theorem rwB_z {E : ga_E} {h : ga_H} {rw_ rn sz : Nat} {v : Nat → zp} (m : Nat) : ga_up (rwB E h rw_ rn sz v) rw_ (ga_o 6 [.ref rn, .int (nI m)]) = rwB E h rw_ rn m v := ga_up_up _ _ _ _

set_option maxHeartbeats 4000000 in
set_option maxRecDepth 100000 in
theorem c_cr_inner (l : Launch) (E : ga_E) (d : Nat) (h : ga_H) (A : Nat → Nat) (hA : ga_inj A 24) (C : Nat → Nat → zp) (u : Nat → Bool) (pv : Nat → Option Nat) (t : Nat → zp) (rw_ rn : Nat) (hne : rn ≠ rw_) (hwA : ∀ k, k < 24 → rw_ ≠ A k) (hnA : ∀ k, k < 24 → rn ≠ A k) (hpv : ∀ j i, j < 13 → pv j = some i → i < 19) (f : Nat) (hf : f < 13) (hpf : pv f = none) (kx : ∀ (v : Nat → zp) (x4 x5 : Option Value), rwOk C pv v (f + 1) → ga_G l E mX2_copyRowTo (ga_Rm (d + 1) 0 0) (ga_Z E (fun r0 h' => ∃ v', rwOk C pv v' 13 ∧ h' = lsH E (rwB E h rw_ rn (cnt pv 13) v') A C u pv t ∧ r0 = none) 0 0) 90 [some (.ref (A 0)), some (.ref rw_), some (.int (nI f)), some (.int (nI 13)), x4, x5] [] (lsH E (rwB E h rw_ rn (cnt pv f) v) A C u pv t) 0 0) : ∀ (g j : Nat) (v : Nat → zp) (x4 x5 : Option Value), j + g = 13 → rwOk C pv v f → (∀ a, a < j → v (cnt pv f * 13 + a) = vecF C pv f a) → ga_G l E mX2_copyRowTo (ga_Rm (d + 1) 0 0) (ga_Z E (fun r0 h' => ∃ v', rwOk C pv v' 13 ∧ h' = lsH E (rwB E h rw_ rn (cnt pv 13) v') A C u pv t ∧ r0 = none) 0 0) 27 [some (.ref (A 0)), some (.ref rw_), some (.int (nI f)), some (.int (nI j)), x4, x5] [] (lsH E (rwB E h rw_ rn (cnt pv f) v) A C u pv t) 0 0 := by
  intro g
  have hcf := cnt_le pv f
  induction g with
  | zero =>
    intro j v x4 x5 hg hv hlt
    refine gr_iload_n dX2_copyRowTo_27 rfl (gr_bipush (v := nI 13) dX2_copyRowTo_28 (by decide) ?_)
    refine gr_icmpgeN 90 dX2_copyRowTo_30 (by decide) (by omega) (by decide) (fun _ => ?_) (fun z => absurd z (by omega))
    rw [show j = 13 by omega]
    refine kx v _ _ (fun f1 h1 h2 a ha => ?_)
    by_cases e : f1 = f
    · subst e; exact hlt a (by omega)
    · exact hv f1 (by omega) h2 a ha
  | succ g ih =>
    intro j v x4 x5 hg hv hlt
    refine gr_iload_n dX2_copyRowTo_27 rfl (gr_bipush (v := nI 13) dX2_copyRowTo_28 (by decide) ?_)
    refine gr_icmpgeN 90 dX2_copyRowTo_30 (by decide) (by omega) (by decide) (fun z => absurd z (by omega)) (fun _ => ?_)
    have go : ∀ (y : zp) (x5 : Option Value), y = vecF C pv f j → ga_G l E mX2_copyRowTo (ga_Rm (d + 1) 0 0) (ga_Z E (fun r0 h' => ∃ v', rwOk C pv v' 13 ∧ h' = lsH E (rwB E h rw_ rn (cnt pv 13) v') A C u pv t ∧ r0 = none) 0 0) 81 [some (.ref (A 0)), some (.ref rw_), some (.int (nI f)), some (.int (nI j)), some (.int (optI (pv j))), x5] [.int (nI y.val), .int (nI j), .int (nI (cnt pv f)), .ref rw_] (lsH E (rwB E h rw_ rn (cnt pv f) v) A C u pv t) 0 0 := fun y x5 hy => by
      refine gr_callV dX2_copyRowTo_81 (c_setNumberAt l E d _ rw_ rn _ v ((ga_ov_out hwA).trans ga_up_eq) ((ga_ov_out hnA).trans ((ga_up_ne hne).trans ga_up_eq)) (cnt pv f) j (by omega) (by omega) y) ysX6_setNumberAt ⟨ml_X2_78, im_X6_setNumberAt, sl_X6_setNumberAt⟩ ((ga_ov_out hwA).trans ga_up_eq) (show vwCl[6]? = some (RX6, TX6, _) from rfl) rfl rfl (Nat.le_of_ble_eq_true rfl) ⟨(Nat.le_refl _), (Nat.le_refl _)⟩ ⟨(Nat.le_refl _), (Nat.le_refl _)⟩ (fun r0 h1 hp9 => ?_)
      obtain ⟨e1, rfl⟩ := hp9
      subst h1
      refine gr_h (show _ = lsH E (rwB E h rw_ rn (cnt pv f) (va_up v (cnt pv f * 13 + j) y)) A C u pv t from (ga_ov_base hnA).trans (congrArg (fun z => ga_ov z A _ 24) (rwB_n hne _))) ?_
      refine gr_iinc (v := nI (_ + 1)) dX2_copyRowTo_84 rfl (nI_1 _) (by decide) rfl ?_
      refine gr_goto 27 dX2_copyRowTo_87 (by decide) ?_
      refine ih (j + 1) _ _ _ (by omega) (fun f1 h1 h2 a ha => ?_) (fun a ha => ?_)
      · have := cnt_mono (pv := pv) h1 h2
        rw [va_un (by omega)]
        exact hv f1 h1 h2 a ha
      · by_cases e : a = j
        · subst e; rw [va_us]; exact hy
        · rw [va_un (by omega)]; exact hlt a (by omega)
    have go2 : ∀ (y : zp), (j ≠ f → y = vecF C pv f j) → ga_G l E mX2_copyRowTo (ga_Rm (d + 1) 0 0) (ga_Z E (fun r0 h' => ∃ v', rwOk C pv v' 13 ∧ h' = lsH E (rwB E h rw_ rn (cnt pv 13) v') A C u pv t ∧ r0 = none) 0 0) 62 [some (.ref (A 0)), some (.ref rw_), some (.int (nI f)), some (.int (nI j)), some (.int (optI (pv j))), x5] [.int (nI y.val)] (lsH E (rwB E h rw_ rn (cnt pv f) v) A C u pv t) 0 0 := fun y hy => by
      refine gr_istore dX2_copyRowTo_62 (by decide) rfl (gr_aload_n dX2_copyRowTo_64 rfl (gr_aload_n dX2_copyRowTo_65 rfl (gr_getf dX2_copyRowTo_66 cls_X6 1 (by decide) fl_X2_72 ((ga_ov_out hwA).trans ga_up_eq) rfl (gr_iload_n dX2_copyRowTo_69 rfl (gr_iload_n dX2_copyRowTo_70 rfl (gr_iload_n dX2_copyRowTo_71 rfl ?_))))))
      refine gr_icmpneN 79 dX2_copyRowTo_72 (by decide) (by omega) (by omega) (fun c_72 => ?_) (fun c_72 => ?_)
      · exact gr_iload dX2_copyRowTo_79 rfl (go y _ (hy c_72))
      · exact gr_iconst (v := nI (1 : zp).val) dX2_copyRowTo_75 rfl (gr_goto 81 dX2_copyRowTo_76 (by decide) (go 1 _ (by unfold vecF; rw [if_pos c_72])))
    refine gr_aload_n dX2_copyRowTo_33 rfl (gr_getf dX2_copyRowTo_34 cls_X2 2 (by decide) fl_X2_20 (ls_0 hA) rfl (gr_iload_n dX2_copyRowTo_37 rfl (gr_iaload dX2_copyRowTo_38 (ls_22 hA) (by omega) (by decide) (gr_istore dX2_copyRowTo_39 (by decide) rfl (gr_iload dX2_copyRowTo_41 rfl ?_)))))
    rcases hk : pv j with _ | i
    · rw [hk] at go2
      refine gr_iflt 61 dX2_copyRowTo_43 (by decide) (fun _ => ?_) (fun z => absurd (by decide) z)
      refine gr_iconst (v := nI (0 : zp).val) dX2_copyRowTo_61 rfl ?_
      exact go2 0 (fun z => by unfold vecF; rw [if_neg z, hk])
    · rw [hk] at go2
      have hi := hpv j i (by omega) hk
      refine gr_ifltN dX2_copyRowTo_43 61 (by decide) (by show i < 2 ^ 31; omega) ?_
      refine gr_aload_n dX2_copyRowTo_46 rfl (gr_getf dX2_copyRowTo_47 cls_X2 0 (by decide) fl_X2_11 (ls_0 hA) rfl (gr_iload dX2_copyRowTo_50 rfl ?_))
      refine gr_aaloadI dX2_copyRowTo_52 (ls_1 hA) hi (by decide) (ls_R hi) (gr_iload_n dX2_copyRowTo_53 rfl (gr_ialoadF dX2_copyRowTo_54 (ls_r hA hi) (by omega) (by decide) ?_))
      refine gr_callS dX2_copyRowTo_55 (c_negative l E d _ (C i f)) ysX3_negative ⟨ml_X2_49, sm_X3_negative⟩ rfl rfl (Nat.le_of_ble_eq_true rfl) ⟨(Nat.le_refl _), (Nat.le_refl _)⟩ ⟨(Nat.le_refl _), (Nat.le_refl _)⟩ (fun r0 h1 hp9 => ?_)
      obtain ⟨e1, rfl⟩ := hp9
      subst h1
      refine gr_goto 62 dX2_copyRowTo_58 (by decide) ?_
      exact go2 (-(C i f)) (fun z => by unfold vecF; rw [if_neg z, hk])

set_option maxHeartbeats 4000000 in
set_option maxRecDepth 100000 in
theorem c_cr_outer (l : Launch) (E : ga_E) (d : Nat) (h : ga_H) (A : Nat → Nat) (hA : ga_inj A 24) (C : Nat → Nat → zp) (u : Nat → Bool) (pv : Nat → Option Nat) (t : Nat → zp) (rw_ rn : Nat) (hne : rn ≠ rw_) (hwA : ∀ k, k < 24 → rw_ ≠ A k) (hnA : ∀ k, k < 24 → rn ≠ A k) (hpv : ∀ j i, j < 13 → pv j = some i → i < 19) : ∀ (g f : Nat) (v : Nat → zp) (x3 x4 x5 : Option Value), f + g = 13 → rwOk C pv v f → ga_G l E mX2_copyRowTo (ga_Rm (d + 1) 0 0) (ga_Z E (fun r0 h' => ∃ v', rwOk C pv v' 13 ∧ h' = lsH E (rwB E h rw_ rn (cnt pv 13) v') A C u pv t ∧ r0 = none) 0 0) 7 [some (.ref (A 0)), some (.ref rw_), some (.int (nI f)), x3, x4, x5] [] (lsH E (rwB E h rw_ rn (cnt pv f) v) A C u pv t) 0 0 := by
  intro g
  induction g with
  | zero =>
    intro f v x3 x4 x5 hg hv
    refine gr_iload_n dX2_copyRowTo_7 rfl (gr_bipush (v := nI 13) dX2_copyRowTo_8 (by decide) ?_)
    refine gr_icmpgeN 106 dX2_copyRowTo_10 (by decide) (by omega) (by decide) (fun _ => ?_) (fun z => absurd z (by omega))
    have e : f = 13 := by omega
    subst e
    exact gr_return dX2_copyRowTo_106 rfl (Nat.le_refl _) (Nat.le_refl _) ⟨v, hv, rfl, rfl⟩
  | succ g ih =>
    intro f v x3 x4 x5 hg hv
    refine gr_iload_n dX2_copyRowTo_7 rfl (gr_bipush (v := nI 13) dX2_copyRowTo_8 (by decide) ?_)
    refine gr_icmpgeN 106 dX2_copyRowTo_10 (by decide) (by omega) (by decide) (fun z => absurd z (by omega)) (fun _ => ?_)
    refine gr_aload_n dX2_copyRowTo_13 rfl (gr_getf dX2_copyRowTo_14 cls_X2 2 (by decide) fl_X2_20 (ls_0 hA) rfl (gr_iload_n dX2_copyRowTo_17 rfl (gr_iaload dX2_copyRowTo_18 (ls_22 hA) (by omega) (by decide) ?_)))
    rcases hk : pv f with _ | i
    · refine gr_iflt 25 dX2_copyRowTo_19 (by decide) (fun _ => ?_) (fun z => absurd (by decide) z)
      refine gr_iconst (v := nI 0) dX2_copyRowTo_25 rfl (gr_istore_n dX2_copyRowTo_26 (by decide) rfl ?_)
      refine c_cr_inner l E d h A hA C u pv t rw_ rn hne hwA hnA hpv f (by omega) hk (fun v1 y4 y5 hv1 => ?_) 13 0 v _ _ (by omega) hv (fun a ha => absurd ha (by omega))
      refine gr_aload_n dX2_copyRowTo_90 rfl (gr_dup dX2_copyRowTo_91 rfl (gr_getf dX2_copyRowTo_92 cls_X6 1 (by decide) fl_X2_72 ((ga_ov_out hwA).trans ga_up_eq) rfl (gr_iconst (v := nI 1) dX2_copyRowTo_95 rfl (gr_iaddN dX2_copyRowTo_96 ?_))))
      refine gr_putf dX2_copyRowTo_97 cls_X6 1 (by decide) fl_X2_72 rfl rfl rfl (by show 1 < 2; decide) ((ga_ov_out hwA).trans ga_up_eq) ?_
      refine gr_h (show _ = lsH E (rwB E h rw_ rn (cnt pv f + 1) v1) A C u pv t from (ga_ov_base hwA).trans (congrArg (fun z => ga_ov z A _ 24) (rwB_z (cnt pv f + 1)))) ?_
      refine gr_iinc (v := nI (_ + 1)) dX2_copyRowTo_100 rfl (nI_1 _) (by decide) rfl ?_
      refine gr_goto 7 dX2_copyRowTo_103 (by decide) ?_
      have e : cnt pv (f + 1) = cnt pv f + 1 := if_pos hk
      rw [← e]
      exact ih (f + 1) v1 _ _ _ (by omega) hv1
    · have hi := hpv f i (by omega) hk
      refine gr_ifltN dX2_copyRowTo_19 25 (by decide) (by show i < 2 ^ 31; omega) (gr_goto 100 dX2_copyRowTo_22 (by decide) ?_)
      refine gr_iinc (v := nI (_ + 1)) dX2_copyRowTo_100 rfl (nI_1 _) (by decide) rfl ?_
      refine gr_goto 7 dX2_copyRowTo_103 (by decide) ?_
      have e : cnt pv (f + 1) = cnt pv f := if_neg (by rw [hk]; simp)
      rw [← e]
      refine ih (f + 1) v _ _ _ (by omega) (fun f1 h1 h2 a ha => ?_)
      by_cases e2 : f1 = f
      · subst e2; rw [hk] at h2; cases h2
      · exact hv f1 (by omega) h2 a ha

set_option maxHeartbeats 4000000 in
set_option maxRecDepth 100000 in
theorem c_copyRowTo (l : Launch) (E : ga_E) (d : Nat) (h : ga_H) (A : Nat → Nat) (hA : ga_inj A 24) (C : Nat → Nat → zp) (u : Nat → Bool) (pv : Nat → Option Nat) (t : Nat → zp) (rw_ rn : Nat) (hne : rn ≠ rw_) (hwA : ∀ k, k < 24 → rw_ ≠ A k) (hnA : ∀ k, k < 24 → rn ≠ A k) (hpv : ∀ j i, j < 13 → pv j = some i → i < 19) (sz : Int32) (v : Nat → zp) (hr : h rw_ = some (ga_o 6 [.ref rn, .int sz])) (hn : h rn = some (ga_f E 169 v)) : ga_Ok l E (d + 1) mX2_copyRowTo [.ref (A 0), .ref rw_] (lsH E h A C u pv t) 0 0 (fun r0 h' => ∃ v', rwOk C pv v' 13 ∧ h' = lsH E (rwB E h rw_ rn (cnt pv 13) v') A C u pv t ∧ r0 = none) := by
  refine ga_Ok.of 4 _ (by decide) rfl (Nat.le_of_ble_eq_true rfl) rfl ?_
  refine gr_aload_n dX2_copyRowTo_0 rfl (gr_iconst (v := nI 0) dX2_copyRowTo_1 rfl ?_)
  refine gr_putf dX2_copyRowTo_2 cls_X6 1 (by decide) fl_X2_72 rfl rfl rfl (by show 1 < 2; decide) ((ga_ov_out hwA).trans hr) ?_
  refine gr_h (show _ = lsH E (rwB E h rw_ rn (cnt pv 0) v) A C u pv t from (ga_ov_base hwA).trans (congrArg (fun z => ga_ov z A _ 24) (by unfold rwB; rw [ga_up_self hn]; rfl))) ?_
  refine gr_iconst (v := nI 0) dX2_copyRowTo_5 rfl (gr_istore_n dX2_copyRowTo_6 (by decide) rfl ?_)
  exact c_cr_outer l E d h A hA C u pv t rw_ rn hne hwA hnA hpv 13 0 v _ _ _ (by omega) (fun f hf => absurd hf (by omega))

/-- the numbers of a factor times z to its shift, times (n + shift) to the c *)-/
def tmc (F : Nat → zp) (sc sh : zp) : Nat → (Nat → zp)
  | 0 => fun j => if j < 7 then F j * sc else 0
  | c + 1 => pmul (tmc F sc sh c) 19 sh
theorem pz_tmc (F : Nat → zp) (sc sh : zp) : ∀ c, pz 19 (tmc F sc sh c)
  | 0 => fun j hj => if_neg (by omega)
  | c + 1 => pz_mul (pz_tmc F sc sh c)
/-- the first c columns have been added to, of column c the first a lines *)-/
def adI (C : Nat → Nat → zp) (T : Nat → Nat → zp) (c a : Nat) : Nat → Nat → zp := fun i j => if i < 19 ∧ (j < c ∨ j = c ∧ i < a) then C i j + T j i else C i j
def addF (C : Nat → Nat → zp) (F : Nat → zp) (sc sh : zp) : Nat → Nat → zp := if pdeg F 7 = 0 then C else adI C (tmc F sc sh) 13 0
theorem adI_up {C T : Nat → Nat → zp} {c a : Nat} (ha : a < 19) : va_up (adI C T c a) a (va_up (adI C T c a a) c (C a c + T c a)) = adI C T c (a + 1) := by
  funext i j
  by_cases e : i = a
  · subst e
    rw [va_us]
    by_cases e2 : j = c
    · subst e2; rw [va_us]; unfold adI; rw [if_pos (by omega)]
    · rw [va_un e2]; unfold adI
      by_cases h : j < c
      · rw [if_pos (by omega), if_pos (by omega)]
      · rw [if_neg (by omega), if_neg (by omega)]
  · rw [va_un e]; unfold adI
    by_cases h : i < 19 ∧ (j < c ∨ j = c ∧ i < a)
    · rw [if_pos h, if_pos (by omega)]
    · rw [if_neg h, if_neg (by omega)]
theorem adI_at (C T : Nat → Nat → zp) (c a : Nat) : adI C T c a a c = C a c := if_neg (by omega)
theorem adI_next (C T : Nat → Nat → zp) (c : Nat) : adI C T c 19 = adI C T (c + 1) 0 := by
  funext i j; unfold adI
  by_cases h : i < 19 ∧ (j < c ∨ j = c ∧ i < 19)
  · rw [if_pos h, if_pos (by omega)]
  · rw [if_neg h, if_neg (by omega)]
theorem adI_0 (C T : Nat → Nat → zp) : adI C T 0 0 = C := by
  funext i j; unfold adI; rw [if_neg (by omega)]

set_option maxHeartbeats 4000000 in
set_option maxRecDepth 100000 in
theorem c_ad_inner (l : Launch) (E : ga_E) (d : Nat) (h : ga_H) (A : Nat → Nat) (hA : ga_inj A 24) (C : Nat → Nat → zp) (u : Nat → Bool) (pv : Nat → Option Nat) (b : Nat) (hbA : ∀ k, k < 24 → b ≠ A k) (F : Nat → zp) (hb : h b = some (ga_f E 7 F)) (sh sc : zp) (c : Nat) (hc : c < 13) (kx : ∀ x5 : Option Value, ga_G l E mX2_addFactor (ga_Rm (d + 1) 0 0) (ga_Z E (fun r0 h' => ∃ t', pz 19 t' ∧ h' = lsH E h A (addF C F sc sh) u pv t' ∧ r0 = none) 0 0) 110 [some (.ref (A 0)), some (.ref b), some (.int (nI sh.val)), some (.int (nI sc.val)), some (.int (nI c)), x5] [] (lsH E h A (adI C (tmc F sc sh) (c + 1) 0) u pv (tmc F sc sh c)) 0 0) : ∀ (g a : Nat), a + g = 19 → ga_G l E mX2_addFactor (ga_Rm (d + 1) 0 0) (ga_Z E (fun r0 h' => ∃ t', pz 19 t' ∧ h' = lsH E h A (addF C F sc sh) u pv t' ∧ r0 = none) 0 0) 65 [some (.ref (A 0)), some (.ref b), some (.int (nI sh.val)), some (.int (nI sc.val)), some (.int (nI c)), some (.int (nI a))] [] (lsH E h A (adI C (tmc F sc sh) c a) u pv (tmc F sc sh c)) 0 0 := by
  intro g
  induction g with
  | zero =>
    intro a hg
    refine gr_iload dX2_addFactor_65 rfl (gr_bipush (v := nI 19) dX2_addFactor_67 (by decide) ?_)
    refine gr_icmpgeN 110 dX2_addFactor_69 (by decide) (by omega) (by decide) (fun _ => ?_) (fun z => absurd z (by omega))
    rw [show a = 19 by omega, adI_next]
    exact kx _
  | succ g ih =>
    intro a hg
    refine gr_iload dX2_addFactor_65 rfl (gr_bipush (v := nI 19) dX2_addFactor_67 (by decide) ?_)
    refine gr_icmpgeN 110 dX2_addFactor_69 (by decide) (by omega) (by decide) (fun z => absurd z (by omega)) (fun _ => ?_)
    refine gr_aload_n dX2_addFactor_72 rfl ?_
    refine gr_getf dX2_addFactor_73 cls_X2 0 (by decide) fl_X2_11 (ls_0 hA) rfl ?_
    refine gr_iload dX2_addFactor_76 rfl ?_
    refine gr_aaloadI dX2_addFactor_78 (ls_1 hA) (by omega) (by decide) (ls_R (by omega)) ?_
    refine gr_iload dX2_addFactor_79 rfl ?_
    refine gr_aload_n dX2_addFactor_81 rfl ?_
    refine gr_getf dX2_addFactor_82 cls_X2 0 (by decide) fl_X2_11 (ls_0 hA) rfl ?_
    refine gr_iload dX2_addFactor_85 rfl ?_
    refine gr_aaloadI dX2_addFactor_87 (ls_1 hA) (by omega) (by decide) (ls_R (by omega)) ?_
    refine gr_iload dX2_addFactor_88 rfl ?_
    refine gr_ialoadF dX2_addFactor_90 (ls_r hA (by omega)) (by omega) (by decide) ?_
    rw [adI_at]
    refine gr_aload_n dX2_addFactor_91 rfl ?_
    refine gr_getf dX2_addFactor_92 cls_X2 3 (by decide) fl_X2_24 (ls_0 hA) rfl ?_
    refine gr_iload dX2_addFactor_95 rfl ?_
    refine gr_ialoadF dX2_addFactor_97 (ls_23 hA) (by omega) (by decide) ?_
    refine gr_iaddN dX2_addFactor_98 ?_
    refine gr_remP dX2_addFactor_99 dX2_addFactor_102 (by have := zl (C a c); have := zl (tmc F sc sh c a); omega) (show zo _ = C a c + tmc F sc sh c a by rw [zo_add, zo_self, zo_self]) ?_
    refine gr_iastoreF dX2_addFactor_103 (ls_r hA (by omega)) (by omega) (by decide) ?_
    rw [ls_wr hA (by omega), adI_up (by omega)]
    refine gr_iinc (v := nI (_ + 1)) dX2_addFactor_104 rfl (nI_1 _) (by decide) rfl ?_
    refine gr_goto 65 dX2_addFactor_107 (by decide) ?_
    exact ih (a + 1) (by omega)

set_option maxHeartbeats 4000000 in
set_option maxRecDepth 100000 in
theorem c_ad_cols (l : Launch) (E : ga_E) (d : Nat) (h : ga_H) (A : Nat → Nat) (hA : ga_inj A 24) (C : Nat → Nat → zp) (u : Nat → Bool) (pv : Nat → Option Nat) (b : Nat) (hbA : ∀ k, k < 24 → b ≠ A k) (F : Nat → zp) (hb : h b = some (ga_f E 7 F)) (sh sc : zp) (hF : pdeg F 7 ≠ 0) : ∀ (g c : Nat) (x5 : Option Value), c + g = 13 → ga_G l E mX2_addFactor (ga_Rm (d + 1) 0 0) (ga_Z E (fun r0 h' => ∃ t', pz 19 t' ∧ h' = lsH E h A (addF C F sc sh) u pv t' ∧ r0 = none) 0 0) 55 [some (.ref (A 0)), some (.ref b), some (.int (nI sh.val)), some (.int (nI sc.val)), some (.int (nI c)), x5] [] (lsH E h A (adI C (tmc F sc sh) c 0) u pv (tmc F sc sh c)) 0 0 := by
  intro g
  induction g with
  | zero =>
    intro c x5 hg
    refine gr_iload dX2_addFactor_55 rfl (gr_bipush (v := nI 13) dX2_addFactor_57 (by decide) ?_)
    refine gr_icmpgeN 124 dX2_addFactor_59 (by decide) (by omega) (by decide) (fun _ => ?_) (fun z => absurd z (by omega))
    exact gr_return dX2_addFactor_124 rfl (Nat.le_refl _) (Nat.le_refl _) ⟨_, pz_tmc F sc sh c, by unfold addF; rw [if_neg hF, show c = 13 by omega], rfl⟩
  | succ g ih =>
    intro c x5 hg
    refine gr_iload dX2_addFactor_55 rfl (gr_bipush (v := nI 13) dX2_addFactor_57 (by decide) ?_)
    refine gr_icmpgeN 124 dX2_addFactor_59 (by decide) (by omega) (by decide) (fun z => absurd z (by omega)) (fun _ => ?_)
    refine gr_iconst (v := nI 0) dX2_addFactor_62 rfl (gr_istore dX2_addFactor_63 (by decide) rfl ?_)
    refine c_ad_inner l E d h A hA C u pv b hbA F hb sh sc c (by omega) (fun y5 => ?_) 19 0 (by omega)
    refine gr_aload_n dX2_addFactor_110 rfl ?_
    refine gr_getf dX2_addFactor_111 cls_X2 3 (by decide) fl_X2_24 (ls_0 hA) rfl ?_
    refine gr_iload_n dX2_addFactor_114 rfl ?_
    refine gr_callS dX2_addFactor_115 (c_mulLin l E d _ (A 23) 19 _ sh (ls_23 hA) (by decide) (by decide)) ysX4_multiplyByLinear ⟨ml_X2_45, sm_X4_multiplyByLinear⟩ rfl rfl (Nat.le_of_ble_eq_true rfl) ⟨(Nat.le_refl _), (Nat.le_refl _)⟩ ⟨(Nat.le_refl _), (Nat.le_refl _)⟩ (fun r0 h1 hp9 => ?_)
    obtain ⟨e1, rfl⟩ := hp9
    subst h1
    rw [ls_w23 hA]
    refine gr_iinc (v := nI (_ + 1)) dX2_addFactor_118 rfl (nI_1 _) (by decide) rfl ?_
    refine gr_goto 55 dX2_addFactor_121 (by decide) ?_
    exact ih (c + 1) _ (by omega)

set_option maxHeartbeats 4000000 in
set_option maxRecDepth 100000 in
theorem c_ad_term (l : Launch) (E : ga_E) (d : Nat) (h : ga_H) (A : Nat → Nat) (hA : ga_inj A 24) (C : Nat → Nat → zp) (u : Nat → Bool) (pv : Nat → Option Nat) (b : Nat) (hbA : ∀ k, k < 24 → b ≠ A k) (F : Nat → zp) (hb : h b = some (ga_f E 7 F)) (sh sc : zp) (hF : pdeg F 7 ≠ 0) : ∀ (g : Nat) (t : Nat → zp) (a : Nat), a + g = 19 → (∀ j, j < a → t j = tmc F sc sh 0 j) → pz 19 t → ga_G l E mX2_addFactor (ga_Rm (d + 1) 0 0) (ga_Z E (fun r0 h' => ∃ t', pz 19 t' ∧ h' = lsH E h A (addF C F sc sh) u pv t' ∧ r0 = none) 0 0) 11 [some (.ref (A 0)), some (.ref b), some (.int (nI sh.val)), some (.int (nI sc.val)), some (.int (nI a)), none] [] (lsH E h A C u pv t) 0 0 := by
  intro g
  induction g with
  | zero =>
    intro t a hg hlt ht
    refine gr_iload dX2_addFactor_11 rfl (gr_bipush (v := nI 19) dX2_addFactor_13 (by decide) ?_)
    refine gr_icmpgeN 52 dX2_addFactor_15 (by decide) (by omega) (by decide) (fun _ => ?_) (fun z => absurd z (by omega))
    have e0 : t = tmc F sc sh 0 := by
      funext j
      by_cases c : j < 19
      · exact hlt j (by omega)
      · rw [ht j (by omega), pz_tmc F sc sh 0 j (by omega)]
    subst e0
    refine gr_iconst (v := nI 0) dX2_addFactor_52 rfl (gr_istore dX2_addFactor_53 (by decide) rfl ?_)
    refine gr_h (show lsH E h A C u pv _ = lsH E h A (adI C (tmc F sc sh) 0 0) u pv _ by rw [adI_0]) ?_
    exact c_ad_cols l E d h A hA C u pv b hbA F hb sh sc hF 13 0 _ (by omega)
  | succ g ih =>
    intro t a hg hlt ht
    refine gr_iload dX2_addFactor_11 rfl (gr_bipush (v := nI 19) dX2_addFactor_13 (by decide) ?_)
    refine gr_icmpgeN 52 dX2_addFactor_15 (by decide) (by omega) (by decide) (fun z => absurd z (by omega)) (fun _ => ?_)
    refine gr_aload_n dX2_addFactor_18 rfl ?_
    refine gr_getf dX2_addFactor_19 cls_X2 3 (by decide) fl_X2_24 (ls_0 hA) rfl ?_
    refine gr_iload dX2_addFactor_22 rfl ?_
    refine gr_iload dX2_addFactor_24 rfl ?_
    refine gr_aload_n dX2_addFactor_26 rfl ?_
    refine gr_alen_i dX2_addFactor_27 ((ga_ov_out hbA).trans hb) ?_
    refine gr_icmpgeN 44 dX2_addFactor_28 (by decide) (by omega) (by decide) (fun c_28 => ?_) (fun c_28 => ?_)
    · refine gr_iconst (v := nI (0 : zp).val) dX2_addFactor_44 rfl ?_
      refine gr_iastoreF dX2_addFactor_45 (ls_23 hA) (by omega) (by decide) ?_
      rw [ls_w23 hA]
      refine gr_iinc (v := nI (_ + 1)) dX2_addFactor_46 rfl (nI_1 _) (by decide) rfl ?_
      refine gr_goto 11 dX2_addFactor_49 (by decide) ?_
      refine ih _ (a + 1) (by omega) (fun j hj => ?_) (pz_up ht (by omega))
      by_cases e : j = a
      · subst e
        rw [va_us]
        exact (if_neg (by omega)).symm
      · exact (va_un e).trans (hlt j (by omega))
    · refine gr_aload_n dX2_addFactor_31 rfl ?_
      refine gr_iload dX2_addFactor_32 rfl ?_
      refine gr_ialoadF dX2_addFactor_34 ((ga_ov_out hbA).trans hb) (by omega) (by decide) ?_
      refine gr_iload_n dX2_addFactor_35 rfl ?_
      refine gr_mulP dX2_addFactor_36 dX2_addFactor_37 dX2_addFactor_40 ?_
      refine gr_goto 45 dX2_addFactor_41 (by decide) ?_
      refine gr_iastoreF dX2_addFactor_45 (ls_23 hA) (by omega) (by decide) ?_
      rw [ls_w23 hA]
      refine gr_iinc (v := nI (_ + 1)) dX2_addFactor_46 rfl (nI_1 _) (by decide) rfl ?_
      refine gr_goto 11 dX2_addFactor_49 (by decide) ?_
      refine ih _ (a + 1) (by omega) (fun j hj => ?_) (pz_up ht (by omega))
      by_cases e : j = a
      · subst e
        rw [va_us]
        exact (if_pos (by omega)).symm
      · exact (va_un e).trans (hlt j (by omega))

set_option maxHeartbeats 4000000 in
set_option maxRecDepth 100000 in
theorem c_addFactor (l : Launch) (E : ga_E) (d : Nat) (h : ga_H) (A : Nat → Nat) (hA : ga_inj A 24) (C : Nat → Nat → zp) (u : Nat → Bool) (pv : Nat → Option Nat) (b : Nat) (hbA : ∀ k, k < 24 → b ≠ A k) (F : Nat → zp) (hb : h b = some (ga_f E 7 F)) (sh sc : zp) (t : Nat → zp) (ht : pz 19 t) : ga_Ok l E (d + 1) mX2_addFactor [.ref (A 0), .ref b, .int (nI sh.val), .int (nI sc.val)] (lsH E h A C u pv t) 0 0 (fun r0 h' => ∃ t', pz 19 t' ∧ h' = lsH E h A (addF C F sc sh) u pv t' ∧ r0 = none) := by
  refine ga_Ok.of 2 _ (by decide) rfl (Nat.le_of_ble_eq_true rfl) rfl ?_
  refine gr_aload_n dX2_addFactor_0 rfl ?_
  refine gr_callS dX2_addFactor_1 (c_degree l E d _ b 7 F ((ga_ov_out hbA).trans hb) (by decide)) ysX4_degree ⟨ml_X2_39, sm_X4_degree⟩ rfl rfl (Nat.le_of_ble_eq_true rfl) ⟨(Nat.le_refl _), (Nat.le_refl _)⟩ ⟨(Nat.le_refl _), (Nat.le_refl _)⟩ (fun r0 h1 hp9 => ?_)
  obtain ⟨e1, rfl⟩ := hp9
  subst h1
  have hle := pdeg_le F 7
  refine gr_ifge 8 dX2_addFactor_4 (by decide) (fun c_4 => ?_) (fun c_4 => ?_)
  · have hF : pdeg F 7 ≠ 0 := fun z => absurd ((dn_neg (by omega)).mpr z) (Int32.not_lt.mpr c_4)
    refine gr_iconst (v := nI 0) dX2_addFactor_8 rfl (gr_istore dX2_addFactor_9 (by decide) rfl ?_)
    exact c_ad_term l E d h A hA C u pv b hbA F hb sh sc hF 19 t 0 (by omega) (fun j hj => absurd hj (by omega)) ht
  · have hF : pdeg F 7 = 0 := (dn_neg (by omega)).mp (Int32.not_le.mp c_4)
    exact gr_return dX2_addFactor_7 rfl (Nat.le_refl _) (Nat.le_refl _) ⟨t, ht, by unfold addF; rw [if_pos hF], rfl⟩
