/-! Roots: simple roots, one root, a row in order, a quotient; find -/
def psub1 (w : Nat → zp) (k : Nat) : Nat → zp := va_up w k (w k - 1 * 1)
def ksR (r : Nat → zp) : Nat → zp := if pdeg r 7 ≤ 1 then r else gcR 8 r (psub1 (rlS 0 32003 r 15 rl1) 1)
theorem pz_rl1 : pz 7 rl1 := fun j hj => by unfold rl1; rw [if_neg (by omega)]
theorem pz_rlS {c : zp} {e : Nat} {m : Nat → zp} : ∀ {k : Nat} {w : Nat → zp}, pz 7 w → pz 7 (rlS c e m k w)
  | 0, _, h => h
  | k + 1, w, h => by
    unfold rlS
    refine pz_rlS ?_
    split
    · exact pz_red (pz_mul (pz_rqW w m))
    · exact pz_rqW w m
theorem pz_gcR : ∀ {k : Nat} {u v : Nat → zp}, pz 7 u → pz 7 v → pz 7 (gcR k u v)
  | 0, _, _, h, _ => h
  | k + 1, u, v, hu, hv => by
    unfold gcR
    split
    · exact hu
    · exact pz_gcR (pz_mon hv) (pz_red hu)
theorem pz_ksR {r : Nat → zp} (h : pz 7 r) : pz 7 (ksR r) := by
  unfold ksR
  split
  · exact h
  · exact pz_gcR h (pz_up (pz_rlS pz_rl1) (by decide))
theorem dn_gt0 : ∀ k, k < 8 → ((0 : Int32) < nI k - nI 1 ↔ 1 < k) := by decide
theorem dn_le0 : ∀ k, k < 8 → (nI k - nI 1 ≤ (0 : Int32) ↔ k ≤ 1) := by decide
theorem dn_le1 : ∀ k, k < 8 → (nI k - nI 1 ≤ nI 1 ↔ k ≤ 2) := by decide
theorem dn_ge : ∀ a, a < 8 → ∀ b, b < 8 → (nI a - nI 1 ≤ nI b - nI 1 ↔ a ≤ b) := by decide

set_option maxHeartbeats 4000000 in
set_option maxRecDepth 100000 in
theorem c_keepSimpleRoots (l : Launch) (E : ga_E) (d : Nat) (h : ga_H) (A : Nat → Nat) (n : Nat) (f r p i w s : Nat → zp) (hA : ga_inj A 7) (hr : pz 7 r) (hw : pz 7 w) (hs : pz 13 s) : ga_Ok l E (d + 4) mX5_keepSimpleRoots [.ref (A 0)] (roH E h A n f r p i w s) 0 0 (fun r0 h' => ∃ w' s', pz 7 w' ∧ pz 13 s' ∧ h' = roH E h A n f (ksR r) p i w' s' ∧ r0 = none) := by
  refine ga_Ok.of 0 _ (by decide) rfl (Nat.le_of_ble_eq_true rfl) rfl ?_
  refine gr_aload_n dX5_keepSimpleRoots_0 rfl ?_
  refine gr_getf dX5_keepSimpleRoots_1 cls_X5 1 (by decide) fl_X5_15 (ro_0 hA) rfl ?_
  refine gr_callS dX5_keepSimpleRoots_4 (c_degree l E (d + 3) _ (A 2) 7 r (ro_2 hA) (by decide)) ysX4_degree ⟨ml_X5_43, sm_X4_degree⟩ rfl rfl (Nat.le_of_ble_eq_true rfl) ⟨(Nat.le_refl _), (Nat.le_refl _)⟩ ⟨(Nat.le_refl _), (Nat.le_refl _)⟩ (fun r0 h1 hp => ?_)
  obtain ⟨e1, rfl⟩ := hp
  subst h1
  have hle := pdeg_le r 7
  refine gr_ifgt 11 dX5_keepSimpleRoots_7 (by decide) (fun c_7 => ?_) (fun c_7 => ?_)
  · refine gr_aload_n dX5_keepSimpleRoots_11 rfl ?_
    refine gr_iconst (v := nI (0 : zp).val) dX5_keepSimpleRoots_12 rfl ?_
    refine gr_sipush (v := nI 32003) dX5_keepSimpleRoots_13 (by decide) ?_
    refine gr_aload_n dX5_keepSimpleRoots_16 rfl ?_
    refine gr_getf dX5_keepSimpleRoots_17 cls_X5 1 (by decide) fl_X5_15 (ro_0 hA) rfl ?_
    refine gr_callV dX5_keepSimpleRoots_20 (c_raiseLinear l E d h A n f r p i r 2 hA (Or.inl ⟨rfl, rfl⟩) 0 32003 (by decide) w s hw hs) ysX5_raiseLinear ⟨ml_X5_58, im_X5_raiseLinear, sl_X5_raiseLinear⟩ (ro_0 hA) (show vwCl[5]? = some (RX5, TX5, _) from rfl) rfl rfl (Nat.le_of_ble_eq_true rfl) ⟨(Nat.le_refl _), (Nat.le_refl _)⟩ ⟨(Nat.le_refl _), (Nat.le_refl _)⟩ (fun r0 h1 hp => ?_)
    obtain ⟨s1, hs1, e1, rfl⟩ := hp
    subst h1
    refine gr_aload_n dX5_keepSimpleRoots_23 rfl ?_
    refine gr_getf dX5_keepSimpleRoots_24 cls_X5 4 (by decide) fl_X5_24 (ro_0 hA) rfl ?_
    refine gr_iconst (v := nI 1) dX5_keepSimpleRoots_27 rfl ?_
    refine gr_aload_n dX5_keepSimpleRoots_28 rfl ?_
    refine gr_getf dX5_keepSimpleRoots_29 cls_X5 4 (by decide) fl_X5_24 (ro_0 hA) rfl ?_
    refine gr_iconst (v := nI 1) dX5_keepSimpleRoots_32 rfl ?_
    refine gr_ialoadF dX5_keepSimpleRoots_33 (ro_5 hA) (by decide) (by decide) ?_
    refine gr_iconst (v := nI (1 : zp).val) dX5_keepSimpleRoots_34 rfl ?_
    refine gr_iconst (v := nI (1 : zp).val) dX5_keepSimpleRoots_35 rfl ?_
    refine gr_callS dX5_keepSimpleRoots_36 (c_less l E (d + 3) _ _ 1 1) ysX3_less ⟨ml_X5_62, sm_X3_less⟩ rfl rfl (Nat.le_of_ble_eq_true rfl) ⟨(Nat.le_refl _), (Nat.le_refl _)⟩ ⟨(Nat.le_refl _), (Nat.le_refl _)⟩ (fun r0 h1 hp => ?_)
    obtain ⟨e1, rfl⟩ := hp
    subst h1
    refine gr_iastoreF dX5_keepSimpleRoots_39 (ro_5 hA) (by decide) (by decide) ?_
    rw [ro_w5 hA]
    refine gr_aload_n dX5_keepSimpleRoots_40 rfl ?_
    refine gr_getf dX5_keepSimpleRoots_41 cls_X5 1 (by decide) fl_X5_15 (ro_0 hA) rfl ?_
    refine gr_aload_n dX5_keepSimpleRoots_44 rfl ?_
    refine gr_getf dX5_keepSimpleRoots_45 cls_X5 4 (by decide) fl_X5_24 (ro_0 hA) rfl ?_
    refine gr_callS dX5_keepSimpleRoots_48 (c_keepCommonDivisor l E (d + 1) _ (A 2) (A 5) (hA.ne (by decide) (by decide) (by decide)) r _ hr (pz_up (pz_rlS pz_rl1) (by decide)) (ro_2 hA) (ro_5 hA)) ysX5_keepCommonDivisor ⟨ml_X5_68, sm_X5_keepCommonDivisor⟩ rfl rfl (Nat.le_of_ble_eq_true rfl) ⟨(Nat.le_refl _), (Nat.le_refl _)⟩ ⟨(Nat.le_refl _), (Nat.le_refl _)⟩ (fun r0 h1 hp => ?_)
    obtain ⟨J, hJ, e1, rfl⟩ := hp
    subst h1
    rw [ro_w5 hA, ro_w2 hA]
    rw [dn_gt0 _ (by omega)] at c_7
    exact gr_return dX5_keepSimpleRoots_51 rfl (Nat.le_refl _) (Nat.le_refl _) ⟨J, s1, hJ, hs1, by unfold ksR; rw [if_neg (by omega)]; rfl, rfl⟩
  · rw [dn_gt0 _ (by omega)] at c_7
    exact gr_return dX5_keepSimpleRoots_10 rfl (Nat.le_refl _) (Nat.le_refl _) ⟨w, s, hw, hs, by unfold ksR; rw [if_pos (by omega)], rfl⟩

/-- one turn: the part of p whose roots, moved by sh, are squares, if it is a proper one -/
def spQ (p : Nat → zp) (sh : Nat) : Nat → zp := gcR 8 p (psub1 (rlS (zo sh) 16001 p 15 rl1) 0)
def spN (p : Nat → zp) (sh : Nat) : Nat → zp := if 1 < pdeg (spQ p sh) 7 ∧ pdeg (spQ p sh) 7 < pdeg p 7 then spQ p sh else p
def spR : Nat → Nat → (Nat → zp) → (Nat → zp)
  | 0, _, p => p
  | k + 1, sh, p => if pdeg p 7 ≤ 2 then p else spR k (sh + 1) (spN p sh)
theorem pz_spQ {p : Nat → zp} {sh : Nat} (h : pz 7 p) : pz 7 (spQ p sh) := pz_gcR h (pz_up (pz_rlS pz_rl1) (by decide))
theorem pz_spN {p : Nat → zp} {sh : Nat} (h : pz 7 p) : pz 7 (spN p sh) := by
  unfold spN
  split
  · exact pz_spQ h
  · exact h

set_option maxHeartbeats 4000000 in
set_option maxRecDepth 100000 in
theorem c_sp_end (l : Launch) (E : ga_E) (d : Nat) (h : ga_H) (A : Nat → Nat) (n : Nat) (f r p i w s : Nat → zp) (hA : ga_inj A 7) (hp : pz 7 p) (hi : pz 7 i) (hw : pz 7 w) (hs : pz 13 s) (x1 x2 : Option Value) : ga_G l E mX5_splitOffRoot (ga_Rm (d + 4) 0 0) (ga_Z E (fun r0 h' => ∃ p' i' w' s', pz 7 p' ∧ pz 7 i' ∧ pz 7 w' ∧ pz 13 s' ∧ h' = roH E h A n f r p' i' w' s' ∧ r0 = some (.int (nI (-(p 0)).val))) 0 0) 134 [some (.ref (A 0)), x1, x2] [] (roH E h A n f r p i w s) 0 0 := by
  refine gr_aload_n dX5_splitOffRoot_134 rfl ?_
  refine gr_getf dX5_splitOffRoot_135 cls_X5 2 (by decide) fl_X5_18 (ro_0 hA) rfl ?_
  refine gr_iconst (v := nI 0) dX5_splitOffRoot_138 rfl ?_
  refine gr_ialoadF dX5_splitOffRoot_139 (ro_3 hA) (by decide) (by decide) ?_
  refine gr_callS dX5_splitOffRoot_140 (c_negative l E (d + 3) _ (p 0)) ysX3_negative ⟨ml_X5_78, sm_X3_negative⟩ rfl rfl (Nat.le_of_ble_eq_true rfl) ⟨(Nat.le_refl _), (Nat.le_refl _)⟩ ⟨(Nat.le_refl _), (Nat.le_refl _)⟩ (fun r0 h1 hp9 => ?_)
  obtain ⟨e1, rfl⟩ := hp9
  subst h1
  exact gr_ireturn dX5_splitOffRoot_143 rfl (Nat.le_refl _) (Nat.le_refl _) ⟨p, i, w, s, hp, hi, hw, hs, rfl, rfl⟩

set_option maxHeartbeats 4000000 in
set_option maxRecDepth 100000 in
theorem c_sp_loop (l : Launch) (E : ga_E) (d : Nat) (h : ga_H) (A : Nat → Nat) (n : Nat) (f r : Nat → zp) (hA : ga_inj A 7) (res : Nat → zp) : ∀ (g sh : Nat) (p i w s : Nat → zp) (x2 : Option Value), sh + g = 32003 → pz 7 p → pz 7 i → pz 7 w → pz 13 s → spR g sh p = res → ga_G l E mX5_splitOffRoot (ga_Rm (d + 4) 0 0) (ga_Z E (fun r0 h' => ∃ p' i' w' s', pz 7 p' ∧ pz 7 i' ∧ pz 7 w' ∧ pz 13 s' ∧ h' = roH E h A n f r p' i' w' s' ∧ r0 = some (.int (nI (-(res 0)).val))) 0 0) 17 [some (.ref (A 0)), some (.int (nI sh)), x2] [] (roH E h A n f r p i w s) 0 0 := by
  intro g
  induction g with
  | zero =>
    intro sh p i w s x2 hg hp hi hw hs hres
    refine gr_iload_n dX5_splitOffRoot_17 rfl (gr_sipush (v := nI 32003) dX5_splitOffRoot_18 (by decide) ?_)
    refine gr_icmpgeN 134 dX5_splitOffRoot_21 (by decide) (by omega) (by decide) (fun _ => ?_) (fun z => absurd z (by omega))
    rw [← hres]
    exact c_sp_end l E d h A n f r p i w s hA hp hi hw hs _ _
  | succ g ih =>
    intro sh p i w s x2 hg hp hi hw hs hres
    refine gr_iload_n dX5_splitOffRoot_17 rfl (gr_sipush (v := nI 32003) dX5_splitOffRoot_18 (by decide) ?_)
    refine gr_icmpgeN 134 dX5_splitOffRoot_21 (by decide) (by omega) (by decide) (fun z => absurd z (by omega)) (fun _ => ?_)
    refine gr_aload_n dX5_splitOffRoot_24 rfl (gr_getf dX5_splitOffRoot_25 cls_X5 2 (by decide) fl_X5_18 (ro_0 hA) rfl ?_)
    refine gr_callS dX5_splitOffRoot_28 (c_degree l E (d + 3) _ (A 3) 7 p (ro_3 hA) (by decide)) ysX4_degree ⟨ml_X5_43, sm_X4_degree⟩ rfl rfl (Nat.le_of_ble_eq_true rfl) ⟨(Nat.le_refl _), (Nat.le_refl _)⟩ ⟨(Nat.le_refl _), (Nat.le_refl _)⟩ (fun r0 h1 hp9 => ?_)
    obtain ⟨e1, rfl⟩ := hp9
    subst h1
    have hp7 := pdeg_le p 7
    refine gr_iconst (v := nI 1) dX5_splitOffRoot_31 rfl ?_
    refine gr_icmple 134 dX5_splitOffRoot_32 (by decide) (fun c_32 => ?_) (fun c_32 => ?_)
    · rw [dn_le1 _ (by omega)] at c_32
      rw [← hres, show spR (g + 1) sh p = p from if_pos c_32]
      exact c_sp_end l E d h A n f r p i w s hA hp hi hw hs _ _
    · rw [dn_le1 _ (by omega)] at c_32
      rw [show spR (g + 1) sh p = spR g (sh + 1) (spN p sh) from if_neg c_32] at hres
      refine gr_aload_n dX5_splitOffRoot_35 rfl ?_
      refine gr_iload_n dX5_splitOffRoot_36 rfl (gr_top (show Value.int (nI sh) = .int (nI (zo sh).val) by rw [show (zo sh).val = sh from Nat.mod_eq_of_lt (by omega)]) ?_)
      refine gr_sipush (v := nI 16001) dX5_splitOffRoot_37 (by decide) ?_
      refine gr_aload_n dX5_splitOffRoot_40 rfl ?_
      refine gr_getf dX5_splitOffRoot_41 cls_X5 2 (by decide) fl_X5_18 (ro_0 hA) rfl ?_
      refine gr_callV dX5_splitOffRoot_44 (c_raiseLinear l E d h A n f r p i p 3 hA (Or.inr ⟨rfl, rfl⟩) (zo sh) 16001 (by decide) w s hw hs) ysX5_raiseLinear ⟨ml_X5_58, im_X5_raiseLinear, sl_X5_raiseLinear⟩ (ro_0 hA) (show vwCl[5]? = some (RX5, TX5, _) from rfl) rfl rfl (Nat.le_of_ble_eq_true rfl) ⟨(Nat.le_refl _), (Nat.le_refl _)⟩ ⟨(Nat.le_refl _), (Nat.le_refl _)⟩ (fun r0 h1 hp9 => ?_)
      obtain ⟨s1, hs1, e1, rfl⟩ := hp9
      subst h1
      refine gr_aload_n dX5_splitOffRoot_47 rfl ?_
      refine gr_getf dX5_splitOffRoot_48 cls_X5 4 (by decide) fl_X5_24 (ro_0 hA) rfl ?_
      refine gr_iconst (v := nI 0) dX5_splitOffRoot_51 rfl ?_
      refine gr_aload_n dX5_splitOffRoot_52 rfl ?_
      refine gr_getf dX5_splitOffRoot_53 cls_X5 4 (by decide) fl_X5_24 (ro_0 hA) rfl ?_
      refine gr_iconst (v := nI 0) dX5_splitOffRoot_56 rfl ?_
      refine gr_ialoadF dX5_splitOffRoot_57 (ro_5 hA) (by decide) (by decide) ?_
      refine gr_iconst (v := nI (1 : zp).val) dX5_splitOffRoot_58 rfl ?_
      refine gr_iconst (v := nI (1 : zp).val) dX5_splitOffRoot_59 rfl ?_
      refine gr_callS dX5_splitOffRoot_60 (c_less l E (d + 3) _ _ 1 1) ysX3_less ⟨ml_X5_62, sm_X3_less⟩ rfl rfl (Nat.le_of_ble_eq_true rfl) ⟨(Nat.le_refl _), (Nat.le_refl _)⟩ ⟨(Nat.le_refl _), (Nat.le_refl _)⟩ (fun r0 h1 hp9 => ?_)
      obtain ⟨e1, rfl⟩ := hp9
      subst h1
      refine gr_iastoreF dX5_splitOffRoot_63 (ro_5 hA) (by decide) (by decide) ?_
      rw [ro_w5 hA]
      refine gr_aload_n dX5_splitOffRoot_64 rfl ?_
      refine gr_getf dX5_splitOffRoot_65 cls_X5 2 (by decide) fl_X5_18 (ro_0 hA) rfl ?_
      refine gr_iconst (v := nI 0) dX5_splitOffRoot_68 rfl ?_
      refine gr_aload_n dX5_splitOffRoot_69 rfl ?_
      refine gr_getf dX5_splitOffRoot_70 cls_X5 3 (by decide) fl_X5_21 (ro_0 hA) rfl ?_
      refine gr_iconst (v := nI 0) dX5_splitOffRoot_73 rfl ?_
      refine gr_bipush (v := nI 7) dX5_splitOffRoot_74 (by decide) ?_
      refine gr_copyF dX5_splitOffRoot_76 ml_X5_72 (ro_3 hA) (ro_4 hA) (by decide) rfl (by decide) ⟨by show 1 ≤ d + 4; omega, by show 64 ≤ 64 * (d + 4); omega⟩ (Nat.le_of_ble_eq_true rfl) hi ?_
      rw [pcut_self hp, ro_w4 hA]
      refine gr_aload_n dX5_splitOffRoot_79 rfl ?_
      refine gr_getf dX5_splitOffRoot_80 cls_X5 3 (by decide) fl_X5_21 (ro_0 hA) rfl ?_
      refine gr_aload_n dX5_splitOffRoot_83 rfl ?_
      refine gr_getf dX5_splitOffRoot_84 cls_X5 4 (by decide) fl_X5_24 (ro_0 hA) rfl ?_
      refine gr_callS dX5_splitOffRoot_87 (c_keepCommonDivisor l E (d + 1) _ (A 4) (A 5) (hA.ne (by decide) (by decide) (by decide)) p _ hp (pz_up (pz_rlS pz_rl1) (by decide)) (ro_4 hA) (ro_5 hA)) ysX5_keepCommonDivisor ⟨ml_X5_68, sm_X5_keepCommonDivisor⟩ rfl rfl (Nat.le_of_ble_eq_true rfl) ⟨(Nat.le_refl _), (Nat.le_refl _)⟩ ⟨(Nat.le_refl _), (Nat.le_refl _)⟩ (fun r0 h1 hp9 => ?_)
      obtain ⟨J, hJ, e1, rfl⟩ := hp9
      subst h1
      rw [ro_w5 hA, ro_w4 hA]
      rw [show gcR 8 p (va_up (rlS (zo sh) 16001 p 15 rl1) 0 (rlS (zo sh) 16001 p 15 rl1 0 - 1 * 1)) = spQ p sh from rfl]
      have hq7 := pdeg_le (spQ p sh) 7
      refine gr_aload_n dX5_splitOffRoot_90 rfl ?_
      refine gr_getf dX5_splitOffRoot_91 cls_X5 3 (by decide) fl_X5_21 (ro_0 hA) rfl ?_
      refine gr_callS dX5_splitOffRoot_94 (c_degree l E (d + 3) _ (A 4) 7 (spQ p sh) (ro_4 hA) (by decide)) ysX4_degree ⟨ml_X5_43, sm_X4_degree⟩ rfl rfl (Nat.le_of_ble_eq_true rfl) ⟨(Nat.le_refl _), (Nat.le_refl _)⟩ ⟨(Nat.le_refl _), (Nat.le_refl _)⟩ (fun r0 h1 hp9 => ?_)
      obtain ⟨e1, rfl⟩ := hp9
      subst h1
      refine gr_istore_n dX5_splitOffRoot_97 (by decide) rfl ?_
      refine gr_iload_n dX5_splitOffRoot_98 rfl ?_
      refine gr_ifle 128 dX5_splitOffRoot_99 (by decide) (fun c_99 => ?_) (fun c_99 => ?_)
      · rw [dn_le0 _ (by omega)] at c_99
        refine gr_iinc (v := nI (_ + 1)) dX5_splitOffRoot_128 rfl (nI_1 _) (by decide) rfl ?_
        refine gr_goto 17 dX5_splitOffRoot_131 (by decide) ?_
        exact ih (sh + 1) p _ _ _ _ (by omega) hp (pz_spQ hp) hJ hs1 (by rw [← hres, show spN p sh = p from if_neg (by omega)])
      · refine gr_iload_n dX5_splitOffRoot_102 rfl ?_
        refine gr_aload_n dX5_splitOffRoot_103 rfl ?_
        refine gr_getf dX5_splitOffRoot_104 cls_X5 2 (by decide) fl_X5_18 (ro_0 hA) rfl ?_
        refine gr_callS dX5_splitOffRoot_107 (c_degree l E (d + 3) _ (A 3) 7 p (ro_3 hA) (by decide)) ysX4_degree ⟨ml_X5_43, sm_X4_degree⟩ rfl rfl (Nat.le_of_ble_eq_true rfl) ⟨(Nat.le_refl _), (Nat.le_refl _)⟩ ⟨(Nat.le_refl _), (Nat.le_refl _)⟩ (fun r0 h1 hp9 => ?_)
        obtain ⟨e1, rfl⟩ := hp9
        subst h1
        refine gr_icmpge 128 dX5_splitOffRoot_110 (by decide) (fun c_110 => ?_) (fun c_110 => ?_)
        · rw [dn_ge _ (by omega) _ (by omega)] at c_110
          refine gr_iinc (v := nI (_ + 1)) dX5_splitOffRoot_128 rfl (nI_1 _) (by decide) rfl ?_
          refine gr_goto 17 dX5_splitOffRoot_131 (by decide) ?_
          exact ih (sh + 1) p _ _ _ _ (by omega) hp (pz_spQ hp) hJ hs1 (by rw [← hres, show spN p sh = p from if_neg (by omega)])
        · rw [dn_ge _ (by omega) _ (by omega)] at c_110
          rw [dn_le0 _ (by omega)] at c_99
          refine gr_aload_n dX5_splitOffRoot_113 rfl ?_
          refine gr_getf dX5_splitOffRoot_114 cls_X5 3 (by decide) fl_X5_21 (ro_0 hA) rfl ?_
          refine gr_iconst (v := nI 0) dX5_splitOffRoot_117 rfl ?_
          refine gr_aload_n dX5_splitOffRoot_118 rfl ?_
          refine gr_getf dX5_splitOffRoot_119 cls_X5 2 (by decide) fl_X5_18 (ro_0 hA) rfl ?_
          refine gr_iconst (v := nI 0) dX5_splitOffRoot_122 rfl ?_
          refine gr_bipush (v := nI 7) dX5_splitOffRoot_123 (by decide) ?_
          refine gr_copyF dX5_splitOffRoot_125 ml_X5_72 (ro_4 hA) (ro_3 hA) (by decide) rfl (by decide) ⟨by show 1 ≤ d + 4; omega, by show 64 ≤ 64 * (d + 4); omega⟩ (Nat.le_of_ble_eq_true rfl) hp ?_
          rw [pcut_self (pz_spQ hp), ro_w3 hA]
          refine gr_iinc (v := nI (_ + 1)) dX5_splitOffRoot_128 rfl (nI_1 _) (by decide) rfl ?_
          refine gr_goto 17 dX5_splitOffRoot_131 (by decide) ?_
          exact ih (sh + 1) (spQ p sh) _ _ _ _ (by omega) (pz_spQ hp) (pz_spQ hp) hJ hs1 (by rw [← hres, show spN p sh = spQ p sh from if_pos (by omega)])

set_option maxHeartbeats 4000000 in
set_option maxRecDepth 100000 in
theorem c_splitOffRoot (l : Launch) (E : ga_E) (d : Nat) (h : ga_H) (A : Nat → Nat) (n : Nat) (f r p i w s : Nat → zp) (hA : ga_inj A 7) (hr : pz 7 r) (hp : pz 7 p) (hi : pz 7 i) (hw : pz 7 w) (hs : pz 13 s) : ga_Ok l E (d + 4) mX5_splitOffRoot [.ref (A 0)] (roH E h A n f r p i w s) 0 0 (fun r0 h' => ∃ p' i' w' s', pz 7 p' ∧ pz 7 i' ∧ pz 7 w' ∧ pz 13 s' ∧ h' = roH E h A n f r p' i' w' s' ∧ r0 = some (.int (nI (-(spR 32003 0 r 0)).val))) := by
  refine ga_Ok.of 2 _ (by decide) rfl (Nat.le_of_ble_eq_true rfl) rfl ?_
  refine gr_aload_n dX5_splitOffRoot_0 rfl ?_
  refine gr_getf dX5_splitOffRoot_1 cls_X5 1 (by decide) fl_X5_15 (ro_0 hA) rfl ?_
  refine gr_iconst (v := nI 0) dX5_splitOffRoot_4 rfl ?_
  refine gr_aload_n dX5_splitOffRoot_5 rfl ?_
  refine gr_getf dX5_splitOffRoot_6 cls_X5 2 (by decide) fl_X5_18 (ro_0 hA) rfl ?_
  refine gr_iconst (v := nI 0) dX5_splitOffRoot_9 rfl ?_
  refine gr_bipush (v := nI 7) dX5_splitOffRoot_10 (by decide) ?_
  refine gr_copyF dX5_splitOffRoot_12 ml_X5_72 (ro_2 hA) (ro_3 hA) (by decide) rfl (by decide) ⟨by show 1 ≤ d + 4; omega, by show 64 ≤ 64 * (d + 4); omega⟩ (Nat.le_of_ble_eq_true rfl) hp ?_
  rw [pcut_self hr, ro_w3 hA]
  refine gr_iconst (v := nI 0) dX5_splitOffRoot_15 rfl ?_
  refine gr_istore_n dX5_splitOffRoot_16 (by decide) rfl ?_
  exact c_sp_loop l E d h A n f r hA _ 32003 0 r _ _ _ _ (by omega) hr hi hw hs rfl
