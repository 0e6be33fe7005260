/-! Roots: powers of a linear polynomial; the common divisor -/
/-- the power's row behind k bits more -/
def rlS (c : zp) (e : Nat) (m : Nat → zp) : Nat → (Nat → zp) → (Nat → zp)
  | 0, w => w
  | k + 1, w => rlS c e m k (if e / 2 ^ k % 2 = 1 then pred (pmul (rqW w m) 7 c) 7 m 7 else rqW w m)
def rl1 : Nat → zp := fun j => if j = 0 then 1 else 0
theorem sh15 : ∀ b, b < 15 → ((nI b &&& 31).toBitVec.smod 32).toNat = b := by decide
theorem pz_rqW (w m : Nat → zp) : pz 7 (rqW w m) := pcut_z 7 _
theorem pz_rqS (w m : Nat → zp) : pz 13 (rqS w m) := pz_red (psqI_z w _ _ _)

set_option maxHeartbeats 4000000 in
set_option maxRecDepth 100000 in
theorem c_rl_loop (l : Launch) (E : ga_E) (d : Nat) (h : ga_H) (A : Nat → Nat) (n : Nat) (f r p i m : Nat → zp) (mi : Nat) (hA : ga_inj A 7) (hm : mi = 2 ∧ m = r ∨ mi = 3 ∧ m = p) (c : zp) (e : Nat) (he : e < 2 ^ 15) : ∀ (k : Nat) (w s : Nat → zp), k ≤ 15 → pz 7 w → pz 13 s → rlS c e m k w = rlS c e m 15 rl1 → ga_G l E mX5_raiseLinear (ga_Rm (d + 3) 0 0) (ga_Z E (fun r0 h' => ∃ s', pz 13 s' ∧ h' = roH E h A n f r p i (rlS c e m 15 rl1) s' ∧ r0 = none) 0 0) 37 [some (.ref (A 0)), some (.int (nI c.val)), some (.int (nI e)), some (.ref (A mi)), some (.int (nI k - nI 1))] [] (roH E h A n f r p i w s) 0 0 := by
  intro k
  induction k with
  | zero =>
    intro w s _ hw hs hr
    refine gr_iload dX5_raiseLinear_37 rfl ?_
    refine gr_iflt 101 dX5_raiseLinear_39 (by decide) (fun _ => ?_) (fun z => absurd ((dn_neg (by decide)).mpr rfl) z)
    exact gr_return dX5_raiseLinear_101 rfl (Nat.le_refl _) (Nat.le_refl _) ⟨s, hs, by rw [← hr]; rfl, rfl⟩
  | succ k ih =>
    intro w s hk hw hs hr
    rw [dn_top]
    refine gr_iload dX5_raiseLinear_37 rfl ?_
    refine gr_ifltN dX5_raiseLinear_39 101 (by decide) (by omega) ?_
    refine gr_aload_n dX5_raiseLinear_42 rfl ?_
    refine gr_callV dX5_raiseLinear_43 (c_squarePower l E d h A n f r p i w s hA hw hs) ysX5_squarePower ⟨ml_X5_82, im_X5_squarePower, sl_X5_squarePower⟩ (ro_0 hA) (show vwCl[5]? = some (RX5, TX5, _) from rfl) rfl rfl (Nat.le_of_ble_eq_true rfl) ⟨(Nat.le_refl _), (Nat.le_refl _)⟩ ⟨(Nat.le_refl _), (Nat.le_refl _)⟩ (fun r0 h1 hp => ?_)
    obtain ⟨e1, rfl⟩ := hp
    subst h1
    refine gr_aload_n dX5_raiseLinear_46 rfl ?_
    refine gr_getf dX5_raiseLinear_47 cls_X5 5 (by decide) fl_X5_27 (ro_0 hA) rfl ?_
    refine gr_aload_n dX5_raiseLinear_50 rfl ?_
    refine gr_callS dX5_raiseLinear_51 (c_reduceBy l E (d + 1) _ (A 6) (A mi) 13 7 _ m (ro_mne hA hm (by decide) (by decide) (by decide)) (ro_6 hA) (ro_m hA hm) (by decide) (by decide)) ysX4_reduceBy ⟨ml_X5_85, sm_X4_reduceBy⟩ rfl rfl (Nat.le_of_ble_eq_true rfl) ⟨(Nat.le_refl _), (Nat.le_refl _)⟩ ⟨(Nat.le_refl _), (Nat.le_refl _)⟩ (fun r0 h1 hp => ?_)
    obtain ⟨e1, rfl⟩ := hp
    subst h1
    rw [ro_w6 hA]
    refine gr_aload_n dX5_raiseLinear_54 rfl ?_
    refine gr_getf dX5_raiseLinear_55 cls_X5 5 (by decide) fl_X5_27 (ro_0 hA) rfl ?_
    refine gr_iconst (v := nI 0) dX5_raiseLinear_58 rfl ?_
    refine gr_aload_n dX5_raiseLinear_59 rfl ?_
    refine gr_getf dX5_raiseLinear_60 cls_X5 4 (by decide) fl_X5_24 (ro_0 hA) rfl ?_
    refine gr_iconst (v := nI 0) dX5_raiseLinear_63 rfl ?_
    refine gr_bipush (v := nI 7) dX5_raiseLinear_64 (by decide) ?_
    refine gr_copyF dX5_raiseLinear_66 ml_X5_72 (ro_6 hA) (ro_5 hA) (by decide) rfl (by decide) ⟨by show 1 ≤ d + 3; omega, by show 64 ≤ 64 * (d + 3); omega⟩ (Nat.le_of_ble_eq_true rfl) hw ?_
    rw [ro_w5 hA]
    refine gr_h (show _ = roH E h A n f r p i (rqW w m) (rqS w m) from rfl) ?_
    refine gr_iload_n dX5_raiseLinear_69 rfl ?_
    refine gr_iload dX5_raiseLinear_70 rfl ?_
    refine gr_ishr dX5_raiseLinear_72 (gr_top (congrArg Value.int (pk_shrN (n := e) (by omega) _ k (sh15 k (by omega)))) ?_)
    refine gr_iconst (v := nI 1) dX5_raiseLinear_73 rfl ?_
    refine gr_iand dX5_raiseLinear_74 (gr_top (congrArg Value.int (pk_andN (n := e / 2 ^ k) (Nat.lt_of_le_of_lt (Nat.div_le_self e (2 ^ k)) (by omega)) 1 (by decide))) ?_)
    refine gr_iconst (v := nI 1) dX5_raiseLinear_75 rfl ?_
    refine gr_icmpneN 95 dX5_raiseLinear_76 (by decide) (by omega) (by decide) (fun c_76 => ?_) (fun c_76 => ?_)
    · refine gr_iinc (v := nI k - nI 1) dX5_raiseLinear_95 rfl (dn_step k) (by decide) rfl ?_
      refine gr_goto 37 dX5_raiseLinear_98 (by decide) ?_
      refine ih _ _ (by omega) ?_ (pz_rqS w m) ?_
      · first | exact pz_rqW w m | exact pz_red (pz_mul (pz_rqW w m))
      · rw [← hr]
        show _ = rlS c e m k (if e / 2 ^ k % 2 = 1 then _ else _)
        first | rw [if_neg c_76] | rw [if_pos c_76]
    · refine gr_aload_n dX5_raiseLinear_79 rfl ?_
      refine gr_getf dX5_raiseLinear_80 cls_X5 4 (by decide) fl_X5_24 (ro_0 hA) rfl ?_
      refine gr_iload_n dX5_raiseLinear_83 rfl ?_
      refine gr_callS dX5_raiseLinear_84 (c_mulLin l E (d + 2) _ (A 5) 7 _ c (ro_5 hA) (by decide) (by decide)) ysX4_multiplyByLinear ⟨ml_X5_88, sm_X4_multiplyByLinear⟩ rfl rfl (Nat.le_of_ble_eq_true rfl) ⟨(Nat.le_refl _), (Nat.le_refl _)⟩ ⟨(Nat.le_refl _), (Nat.le_refl _)⟩ (fun r0 h1 hp => ?_)
      obtain ⟨e1, rfl⟩ := hp
      subst h1
      rw [ro_w5 hA]
      refine gr_aload_n dX5_raiseLinear_87 rfl ?_
      refine gr_getf dX5_raiseLinear_88 cls_X5 4 (by decide) fl_X5_24 (ro_0 hA) rfl ?_
      refine gr_aload_n dX5_raiseLinear_91 rfl ?_
      refine gr_callS dX5_raiseLinear_92 (c_reduceBy l E (d + 1) _ (A 5) (A mi) 7 7 _ m (ro_mne hA hm (by decide) (by decide) (by decide)) (ro_5 hA) (ro_m hA hm) (by decide) (by decide)) ysX4_reduceBy ⟨ml_X5_85, sm_X4_reduceBy⟩ rfl rfl (Nat.le_of_ble_eq_true rfl) ⟨(Nat.le_refl _), (Nat.le_refl _)⟩ ⟨(Nat.le_refl _), (Nat.le_refl _)⟩ (fun r0 h1 hp => ?_)
      obtain ⟨e1, rfl⟩ := hp
      subst h1
      rw [ro_w5 hA]
      refine gr_iinc (v := nI k - nI 1) dX5_raiseLinear_95 rfl (dn_step k) (by decide) rfl ?_
      refine gr_goto 37 dX5_raiseLinear_98 (by decide) ?_
      refine ih _ _ (by omega) ?_ (pz_rqS w m) ?_
      · first | exact pz_rqW w m | exact pz_red (pz_mul (pz_rqW w m))
      · rw [← hr]
        show _ = rlS c e m k (if e / 2 ^ k % 2 = 1 then _ else _)
        first | rw [if_neg c_76] | rw [if_pos c_76]

set_option maxHeartbeats 4000000 in
set_option maxRecDepth 100000 in
theorem c_rl_fill (l : Launch) (E : ga_E) (d : Nat) (h : ga_H) (A : Nat → Nat) (n : Nat) (f r p i m : Nat → zp) (mi : Nat) (hA : ga_inj A 7) (hm : mi = 2 ∧ m = r ∨ mi = 3 ∧ m = p) (c : zp) (e : Nat) (he : e < 2 ^ 15) (s : Nat → zp) (hs : pz 13 s) : ∀ (g : Nat) (w : Nat → zp) (b : Nat), b + g = 7 → (∀ j, j < b → w j = rl1 j) → pz 7 w → ga_G l E mX5_raiseLinear (ga_Rm (d + 3) 0 0) (ga_Z E (fun r0 h' => ∃ s', pz 13 s' ∧ h' = roH E h A n f r p i (rlS c e m 15 rl1) s' ∧ r0 = none) 0 0) 3 [some (.ref (A 0)), some (.int (nI c.val)), some (.int (nI e)), some (.ref (A mi)), some (.int (nI b))] [] (roH E h A n f r p i w s) 0 0 := by
  intro g
  induction g with
  | zero =>
    intro w b hb hlt hw
    refine gr_iload dX5_raiseLinear_3 rfl (gr_bipush (v := nI 7) dX5_raiseLinear_5 (by decide) ?_)
    refine gr_icmpgeN 33 dX5_raiseLinear_7 (by decide) (by omega) (by omega) (fun _ => ?_) (fun z => absurd z (by omega))
    have e0 : w = rl1 := by
      funext j
      by_cases c : j < b
      · exact hlt j c
      · rw [hw j (by omega)]; unfold rl1; rw [if_neg (by omega)]
    subst e0
    refine gr_bipush (v := nI 15 - nI 1) dX5_raiseLinear_33 (by decide) (gr_istore dX5_raiseLinear_35 (by decide) rfl ?_)
    exact c_rl_loop l E d h A n f r p i m mi hA hm c e he 15 rl1 s (by omega) hw hs rfl
  | succ g ih =>
    intro w b hb hlt hw
    refine gr_iload dX5_raiseLinear_3 rfl (gr_bipush (v := nI 7) dX5_raiseLinear_5 (by decide) ?_)
    refine gr_icmpgeN 33 dX5_raiseLinear_7 (by decide) (by omega) (by omega) (fun z => absurd z (by omega)) (fun _ => ?_)
    refine gr_aload_n dX5_raiseLinear_10 rfl (gr_getf dX5_raiseLinear_11 cls_X5 4 (by decide) fl_X5_24 (ro_0 hA) rfl (gr_iload dX5_raiseLinear_14 rfl (gr_iload dX5_raiseLinear_16 rfl ?_)))
    have go : ∀ x : zp, x = rl1 b → ga_G l E mX5_raiseLinear (ga_Rm (d + 3) 0 0) (ga_Z E (fun r0 h' => ∃ s', pz 13 s' ∧ h' = roH E h A n f r p i (rlS c e m 15 rl1) s' ∧ r0 = none) 0 0) 26 [some (.ref (A 0)), some (.int (nI c.val)), some (.int (nI e)), some (.ref (A mi)), some (.int (nI b))] [.int (nI x.val), .int (nI b), .ref (A 5)] (roH E h A n f r p i w s) 0 0 := fun x hx => by
      refine gr_iastoreF dX5_raiseLinear_26 (ro_5 hA) (by omega) (by decide) ?_
      rw [ro_w5 hA]
      refine gr_iinc (v := nI (_ + 1)) dX5_raiseLinear_27 rfl (nI_1 _) (by decide) rfl ?_
      refine gr_goto 3 dX5_raiseLinear_30 (by decide) ?_
      refine ih _ (b + 1) (by omega) (fun j hj => ?_) (pz_up hw (by omega))
      by_cases e : j = b
      · rw [show va_up w b x j = x from if_pos e, hx, e]
      · exact (if_neg e : va_up w b x j = w j).trans (hlt j (by omega))
    refine gr_ifneN 25 dX5_raiseLinear_18 (by decide) (by omega) (fun c_18 => ?_) (fun c_18 => ?_)
    · refine gr_iconst (v := nI (0 : zp).val) dX5_raiseLinear_25 rfl ?_
      exact go 0 (by unfold rl1; rw [if_neg c_18])
    · refine gr_iconst (v := nI (1 : zp).val) dX5_raiseLinear_21 rfl (gr_goto 26 dX5_raiseLinear_22 (by decide) ?_)
      exact go 1 (by unfold rl1; rw [if_pos c_18])

set_option maxHeartbeats 4000000 in
set_option maxRecDepth 100000 in
theorem c_raiseLinear (l : Launch) (E : ga_E) (d : Nat) (h : ga_H) (A : Nat → Nat) (n : Nat) (f r p i m : Nat → zp) (mi : Nat) (hA : ga_inj A 7) (hm : mi = 2 ∧ m = r ∨ mi = 3 ∧ m = p) (c : zp) (e : Nat) (he : e < 2 ^ 15) (w s : Nat → zp) (hw : pz 7 w) (hs : pz 13 s) : ga_Ok l E (d + 3) mX5_raiseLinear [.ref (A 0), .int (nI c.val), .int (nI e), .ref (A mi)] (roH E h A n f r p i w s) 0 0 (fun r0 h' => ∃ s', pz 13 s' ∧ h' = roH E h A n f r p i (rlS c e m 15 rl1) s' ∧ r0 = none) := by
  refine ga_Ok.of 1 _ (by decide) rfl (Nat.le_of_ble_eq_true rfl) rfl ?_
  refine gr_iconst (v := nI 0) dX5_raiseLinear_0 rfl (gr_istore dX5_raiseLinear_1 (by decide) rfl ?_)
  exact c_rl_fill l E d h A n f r p i m mi hA hm c e he s hs 7 w 0 (by omega) (fun j hj => absurd hj (by omega)) hw

/-- the common divisor: k turns at most -/
def gcR : Nat → (Nat → zp) → (Nat → zp) → (Nat → zp)
  | 0, u, _ => u
  | k + 1, u, v => if pdeg v 7 = 0 then u else gcR k (pmon v 7) (pred u 7 (pmon v 7) 7)
theorem gc_swap {h : ga_H} {x y : Nat} {a b c : va_E} (n : x ≠ y) : ga_up (ga_up (ga_up h x a) y b) x c = ga_up (ga_up h y b) x c := by
  rw [ga_up_comm _ _ _ n, ga_up_up]

set_option maxHeartbeats 4000000 in
set_option maxRecDepth 100000 in
theorem c_gc_end (l : Launch) (E : ga_E) (d : Nat) (h : ga_H) (a b : Nat) (hab : a ≠ b) (x y : Nat) (u v : Nat → zp) (hu : pz 7 u) (hv : pz 7 v) (hxy : x = a ∧ y = b ∨ x = b ∧ y = a) (x4 x5 : Option Value) : ga_G l E mX5_keepCommonDivisor (ga_Rm (d + 2) 0 0) (ga_Z E (fun r0 h' => ∃ J, pz 7 J ∧ h' = ga_up (ga_up h b (ga_f E 7 J)) a (ga_f E 7 u) ∧ r0 = none) 0 0) 44 [some (.ref a), some (.ref b), some (.ref x), some (.ref y), x4, x5] [] (ga_up (ga_up h x (ga_f E 7 u)) y (ga_f E 7 v)) 0 0 := by
  have hba : b ≠ a := fun z => hab z.symm
  refine gr_aload_n dX5_keepCommonDivisor_44 rfl (gr_iconst (v := nI 0) dX5_keepCommonDivisor_45 rfl (gr_aload_n dX5_keepCommonDivisor_46 rfl (gr_iconst (v := nI 0) dX5_keepCommonDivisor_47 rfl (gr_bipush (v := nI 7) dX5_keepCommonDivisor_48 (by decide) ?_))))
  rcases hxy with ⟨rfl, rfl⟩ | ⟨rfl, rfl⟩
  · refine gr_copyF dX5_keepCommonDivisor_50 ml_X5_72 (by rw [ga_up_ne hab]; exact ga_up_eq) (by rw [ga_up_ne hab]; exact ga_up_eq) (by decide) rfl (by decide) ⟨by show 1 ≤ d + 2; omega, by show 64 ≤ 64 * (d + 2); omega⟩ (Nat.le_of_ble_eq_true rfl) hu ?_
    rw [pcut_self hu, gc_swap hab]
    exact gr_return dX5_keepCommonDivisor_53 rfl (Nat.le_refl _) (Nat.le_refl _) ⟨v, hv, rfl, rfl⟩
  · refine gr_copyF dX5_keepCommonDivisor_50 ml_X5_72 (by rw [ga_up_ne hba]; exact ga_up_eq) ga_up_eq (by decide) rfl (by decide) ⟨by show 1 ≤ d + 2; omega, by show 64 ≤ 64 * (d + 2); omega⟩ (Nat.le_of_ble_eq_true rfl) hv ?_
    rw [pcut_self hu, ga_up_up]
    exact gr_return dX5_keepCommonDivisor_53 rfl (Nat.le_refl _) (Nat.le_refl _) ⟨u, hu, rfl, rfl⟩

theorem gc_or {p q r s : Prop} (h : (p ∧ q) ∨ (r ∧ s)) : (q ∧ p) ∨ (s ∧ r) := h.elim (fun z => Or.inl ⟨z.2, z.1⟩) (fun z => Or.inr ⟨z.2, z.1⟩)

set_option maxHeartbeats 4000000 in
set_option maxRecDepth 100000 in
theorem c_gc_loop (l : Launch) (E : ga_E) (d : Nat) (h : ga_H) (a b : Nat) (hab : a ≠ b) (G : Nat → zp) : ∀ (g : Nat) (x y : Nat) (u v : Nat → zp) (b1 : Nat) (x5 : Option Value), b1 + g = 8 → pz 7 u → pz 7 v → x ≠ y → (x = a ∧ y = b ∨ x = b ∧ y = a) → gcR g u v = G → ga_G l E mX5_keepCommonDivisor (ga_Rm (d + 2) 0 0) (ga_Z E (fun r0 h' => ∃ J, pz 7 J ∧ h' = ga_up (ga_up h b (ga_f E 7 J)) a (ga_f E 7 G) ∧ r0 = none) 0 0) 7 [some (.ref a), some (.ref b), some (.ref x), some (.ref y), some (.int (nI b1)), x5] [] (ga_up (ga_up h x (ga_f E 7 u)) y (ga_f E 7 v)) 0 0 := by
  intro g
  induction g with
  | zero =>
    intro x y u v b1 x5 hb hu hv hne hxy hr
    refine gr_iload dX5_keepCommonDivisor_7 rfl (gr_bipush (v := nI 7) dX5_keepCommonDivisor_9 (by decide) ?_)
    refine gr_icmpgtN 44 dX5_keepCommonDivisor_11 (by decide) (by omega) (by decide) (fun _ => ?_) (fun z => absurd z (by omega))
    rw [← hr]
    exact c_gc_end l E d h a b hab x y u v hu hv hxy _ _
  | succ g ih =>
    intro x y u v b1 x5 hb hu hv hne hxy hr
    have hyx : y ≠ x := fun z => hne z.symm
    refine gr_iload dX5_keepCommonDivisor_7 rfl (gr_bipush (v := nI 7) dX5_keepCommonDivisor_9 (by decide) ?_)
    refine gr_icmpgtN 44 dX5_keepCommonDivisor_11 (by decide) (by omega) (by decide) (fun z => absurd z (by omega)) (fun _ => ?_)
    refine gr_aload_n dX5_keepCommonDivisor_14 rfl ?_
    refine gr_callS dX5_keepCommonDivisor_15 (c_degree l E (d + 1) _ y 7 v ga_up_eq (by decide)) ysX4_degree ⟨ml_X5_43, sm_X4_degree⟩ rfl rfl (Nat.le_of_ble_eq_true rfl) ⟨(Nat.le_refl _), (Nat.le_refl _)⟩ ⟨(Nat.le_refl _), (Nat.le_refl _)⟩ (fun r0 h1 hp => ?_)
    obtain ⟨e1, rfl⟩ := hp
    subst h1
    have hle := pdeg_le v 7
    refine gr_iflt 44 dX5_keepCommonDivisor_18 (by decide) (fun c_18 => ?_) (fun c_18 => ?_)
    · rw [dn_neg (by omega)] at c_18
      rw [← hr, show gcR (g + 1) u v = u from if_pos c_18]
      exact c_gc_end l E d h a b hab x y u v hu hv hxy _ _
    · rw [dn_neg (by omega)] at c_18
      refine gr_aload_n dX5_keepCommonDivisor_21 rfl ?_
      refine gr_callS dX5_keepCommonDivisor_22 (c_makeMonic l E d _ y 7 v ga_up_eq (by decide)) ysX4_makeMonic ⟨ml_X5_34, sm_X4_makeMonic⟩ rfl rfl (Nat.le_of_ble_eq_true rfl) ⟨(Nat.le_refl _), (Nat.le_refl _)⟩ ⟨(Nat.le_refl _), (Nat.le_refl _)⟩ (fun r0 h1 hp => ?_)
      obtain ⟨e1, rfl⟩ := hp
      subst h1
      rw [ga_up_up]
      refine gr_aload_n dX5_keepCommonDivisor_25 rfl ?_
      refine gr_aload_n dX5_keepCommonDivisor_26 rfl ?_
      refine gr_callS dX5_keepCommonDivisor_27 (c_reduceBy l E d _ x y 7 7 u _ hyx (by rw [ga_up_ne hne]; exact ga_up_eq) ga_up_eq (by decide) (by decide)) ysX4_reduceBy ⟨ml_X5_85, sm_X4_reduceBy⟩ rfl rfl (Nat.le_of_ble_eq_true rfl) ⟨(Nat.le_refl _), (Nat.le_refl _)⟩ ⟨(Nat.le_refl _), (Nat.le_refl _)⟩ (fun r0 h1 hp => ?_)
      obtain ⟨e1, rfl⟩ := hp
      subst h1
      rw [gc_swap hne]
      refine gr_aload_n dX5_keepCommonDivisor_30 rfl ?_
      refine gr_astore dX5_keepCommonDivisor_31 (by decide) rfl ?_
      refine gr_aload_n dX5_keepCommonDivisor_33 rfl ?_
      refine gr_astore_n dX5_keepCommonDivisor_34 (by decide) rfl ?_
      refine gr_aload dX5_keepCommonDivisor_35 rfl ?_
      refine gr_astore_n dX5_keepCommonDivisor_37 (by decide) rfl ?_
      refine gr_iinc (v := nI (_ + 1)) dX5_keepCommonDivisor_38 rfl (nI_1 _) (by decide) rfl ?_
      refine gr_goto 7 dX5_keepCommonDivisor_41 (by decide) ?_
      exact ih y x _ _ (b1 + 1) _ (by omega) (pz_mon hv) (pz_red hu) hyx (gc_or hxy.symm) (by rw [← hr]; show _ = if pdeg v 7 = 0 then _ else _; rw [if_neg (by omega)])

set_option maxHeartbeats 4000000 in
set_option maxRecDepth 100000 in
theorem c_keepCommonDivisor (l : Launch) (E : ga_E) (d : Nat) (h : ga_H) (a b : Nat) (hab : a ≠ b) (u v : Nat → zp) (hu : pz 7 u) (hv : pz 7 v) (ha : h a = some (ga_f E 7 u)) (hb : h b = some (ga_f E 7 v)) : ga_Ok l E (d + 2) mX5_keepCommonDivisor [.ref a, .ref b] h 0 0 (fun r0 h' => ∃ J, pz 7 J ∧ h' = ga_up (ga_up h b (ga_f E 7 J)) a (ga_f E 7 (gcR 8 u v)) ∧ r0 = none) := by
  refine ga_Ok.of 4 _ (by decide) rfl (Nat.le_of_ble_eq_true rfl) rfl ?_
  refine gr_aload_n dX5_keepCommonDivisor_0 rfl ?_
  refine gr_astore_n dX5_keepCommonDivisor_1 (by decide) rfl ?_
  refine gr_aload_n dX5_keepCommonDivisor_2 rfl ?_
  refine gr_astore_n dX5_keepCommonDivisor_3 (by decide) rfl ?_
  refine gr_iconst (v := nI 0) dX5_keepCommonDivisor_4 rfl ?_
  refine gr_istore dX5_keepCommonDivisor_5 (by decide) rfl ?_
  refine gr_h (show h = ga_up (ga_up h a (ga_f E 7 u)) b (ga_f E 7 v) by rw [ga_up_self ha, ga_up_self hb]) ?_
  exact c_gc_loop l E d h a b hab _ 8 a b u v 0 _ (by omega) hu hv hab (Or.inl ⟨rfl, rfl⟩) rfl
