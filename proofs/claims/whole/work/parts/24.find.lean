/-! Roots: insert, divideOut, at, find -/
/-- x put into the first k numbers, in order -/
def insR (x : zp) : Nat → (Nat → zp) → (Nat → zp)
  | 0, f => va_up f 0 x
  | k + 1, f => if (f k).val ≤ x.val then va_up f (k + 1) x else insR x k (va_up f (k + 1) (f k))
def dvR (x : zp) : Nat → zp → (Nat → zp) → (Nat → zp)
  | 0, _, r => r
  | k + 1, c, r => dvR x k (r k + c * x) (va_up r k c)
theorem pz_dvR {x : zp} : ∀ {k : Nat} {c : zp} {r : Nat → zp}, k ≤ 7 → pz 7 r → pz 7 (dvR x k c r)
  | 0, _, _, _, h => h
  | k + 1, c, r, hk, h => by unfold dvR; exact pz_dvR (by omega) (pz_up h (by omega))

set_option maxHeartbeats 4000000 in
set_option maxRecDepth 100000 in
theorem c_ins_end (l : Launch) (E : ga_E) (d : Nat) (h : ga_H) (A : Nat → Nat) (n : Nat) (r p i w s : Nat → zp) (hA : ga_inj A 7) (x : zp) (hn : n < 6) (res : Nat → zp) (f : Nat → zp) (k : Nat) (hk : k < 6) (hres : va_up f k x = res) : ga_G l E mX5_insert (ga_Rm d 0 0) (ga_Z E (fun r0 h' => h' = roH E h A (n + 1) res r p i w s ∧ r0 = none) 0 0) 54 [some (.ref (A 0)), some (.int (nI x.val)), some (.int (nI k))] [] (roH E h A n f r p i w s) 0 0 := by
  refine gr_aload_n dX5_insert_54 rfl ?_
  refine gr_getf dX5_insert_55 cls_X5 0 (by decide) fl_X5_9 (ro_0 hA) rfl ?_
  refine gr_iload_n dX5_insert_58 rfl ?_
  refine gr_iload_n dX5_insert_59 rfl ?_
  refine gr_iastoreF dX5_insert_60 (ro_1 hA) (by omega) (by decide) ?_
  rw [ro_w1 hA]
  refine gr_aload_n dX5_insert_61 rfl ?_
  refine gr_dup dX5_insert_62 rfl ?_
  refine gr_getf dX5_insert_63 cls_X5 6 (by decide) fl_X5_30 (ro_0 hA) rfl ?_
  refine gr_iconst (v := nI 1) dX5_insert_66 rfl ?_
  refine gr_iaddN dX5_insert_67 ?_
  refine gr_putf dX5_insert_68 cls_X5 6 (by decide) fl_X5_30 rfl rfl rfl (by show 6 < 7; decide) (ro_0 hA) ?_
  refine gr_h (ro_w0 hA (n + 1)) ?_
  rw [hres]
  exact gr_return dX5_insert_71 rfl (Nat.le_refl _) (Nat.le_refl _) ⟨rfl, rfl⟩

set_option maxHeartbeats 4000000 in
set_option maxRecDepth 100000 in
theorem c_ins_loop (l : Launch) (E : ga_E) (d : Nat) (h : ga_H) (A : Nat → Nat) (n : Nat) (r p i w s : Nat → zp) (hA : ga_inj A 7) (x : zp) (hn : n < 6) (res : Nat → zp) : ∀ (k : Nat) (f : Nat → zp), k < 6 → insR x k f = res → ga_G l E mX5_insert (ga_Rm d 0 0) (ga_Z E (fun r0 h' => h' = roH E h A (n + 1) res r p i w s ∧ r0 = none) 0 0) 18 [some (.ref (A 0)), some (.int (nI x.val)), some (.int (nI k))] [] (roH E h A n f r p i w s) 0 0 := by
  intro k
  induction k with
  | zero =>
    intro f hk hres
    refine gr_iload_n dX5_insert_18 rfl ?_
    refine gr_ifleN 54 dX5_insert_19 (by decide) (by decide) (fun _ => ?_) (fun z => absurd rfl z)
    exact c_ins_end l E d h A n r p i w s hA x hn res f 0 hk hres
  | succ k ih =>
    intro f hk hres
    refine gr_iload_n dX5_insert_18 rfl ?_
    refine gr_ifleN 54 dX5_insert_19 (by decide) (by omega) (fun z => absurd z (by omega)) (fun _ => ?_)
    refine gr_aload_n dX5_insert_22 rfl ?_
    refine gr_getf dX5_insert_23 cls_X5 0 (by decide) fl_X5_9 (ro_0 hA) rfl ?_
    refine gr_iload_n dX5_insert_26 rfl ?_
    refine gr_iconst (v := nI 1) dX5_insert_27 rfl ?_
    refine gr_isubN dX5_insert_28 (by omega) ?_
    rw [Nat.add_sub_cancel]
    refine gr_ialoadF dX5_insert_29 (ro_1 hA) (by omega) (by decide) ?_
    refine gr_iload_n dX5_insert_30 rfl ?_
    refine gr_icmpleN 54 dX5_insert_31 (by decide) (by have := zl (f k); omega) (by have := zl x; omega) (fun c_31 => ?_) (fun c_31 => ?_)
    · exact c_ins_end l E d h A n r p i w s hA x hn res f (k + 1) (by omega) (by rw [← hres]; exact (if_pos c_31).symm)
    · refine gr_aload_n dX5_insert_34 rfl ?_
      refine gr_getf dX5_insert_35 cls_X5 0 (by decide) fl_X5_9 (ro_0 hA) rfl ?_
      refine gr_iload_n dX5_insert_38 rfl ?_
      refine gr_aload_n dX5_insert_39 rfl ?_
      refine gr_getf dX5_insert_40 cls_X5 0 (by decide) fl_X5_9 (ro_0 hA) rfl ?_
      refine gr_iload_n dX5_insert_43 rfl ?_
      refine gr_iconst (v := nI 1) dX5_insert_44 rfl ?_
      refine gr_isubN dX5_insert_45 (by omega) ?_
      rw [Nat.add_sub_cancel]
      refine gr_ialoadF dX5_insert_46 (ro_1 hA) (by omega) (by decide) ?_
      refine gr_iastoreF dX5_insert_47 (ro_1 hA) (by omega) (by decide) ?_
      rw [ro_w1 hA]
      refine gr_iinc (v := nI k) dX5_insert_48 rfl (dn_stepS k) (by decide) rfl ?_
      refine gr_goto 18 dX5_insert_51 (by decide) ?_
      exact ih _ (by omega) (by rw [← hres]; exact (if_neg (by omega)).symm)

set_option maxHeartbeats 4000000 in
set_option maxRecDepth 100000 in
theorem c_insert (l : Launch) (E : ga_E) (d : Nat) (h : ga_H) (A : Nat → Nat) (n : Nat) (f r p i w s : Nat → zp) (hA : ga_inj A 7) (x : zp) (hn : n < 6) : ga_Ok l E d mX5_insert [.ref (A 0), .int (nI x.val)] (roH E h A n f r p i w s) 0 0 (fun r0 h' => h' = roH E h A (n + 1) (insR x n f) r p i w s ∧ r0 = none) := by
  refine ga_Ok.of 1 _ (by decide) rfl (Nat.le_of_ble_eq_true rfl) rfl ?_
  refine gr_aload_n dX5_insert_0 rfl ?_
  refine gr_getf dX5_insert_1 cls_X5 6 (by decide) fl_X5_30 (ro_0 hA) rfl ?_
  refine gr_aload_n dX5_insert_4 rfl ?_
  refine gr_getf dX5_insert_5 cls_X5 0 (by decide) fl_X5_9 (ro_0 hA) rfl ?_
  refine gr_alen_i dX5_insert_8 (ro_1 hA) ?_
  refine gr_icmpltN 13 dX5_insert_9 (by decide) (by omega) (by decide) (fun _ => ?_) (fun z => absurd z (by omega))
  refine gr_aload_n dX5_insert_13 rfl ?_
  refine gr_getf dX5_insert_14 cls_X5 6 (by decide) fl_X5_30 (ro_0 hA) rfl ?_
  refine gr_istore_n dX5_insert_17 (by decide) rfl ?_
  exact c_ins_loop l E d h A n r p i w s hA x hn _ n f hn rfl

set_option maxHeartbeats 4000000 in
set_option maxRecDepth 100000 in
theorem c_dv_loop (l : Launch) (E : ga_E) (d : Nat) (h : ga_H) (A : Nat → Nat) (n : Nat) (f p i w s : Nat → zp) (hA : ga_inj A 7) (x : zp) (res : Nat → zp) : ∀ (k : Nat) (c : zp) (r : Nat → zp) (x4 : Option Value), k ≤ 7 → dvR x k c r = res → ga_G l E mX5_divideOut (ga_Rm d 0 0) (ga_Z E (fun r0 h' => h' = roH E h A n f res p i w s ∧ r0 = none) 0 0) 5 [some (.ref (A 0)), some (.int (nI x.val)), some (.int (nI c.val)), some (.int (nI k - nI 1)), x4] [] (roH E h A n f r p i w s) 0 0 := by
  intro k
  induction k with
  | zero =>
    intro c r x4 _ hres
    refine gr_iload_n dX5_divideOut_5 rfl ?_
    refine gr_iflt 41 dX5_divideOut_6 (by decide) (fun _ => ?_) (fun z => absurd ((dn_neg (by decide)).mpr rfl) z)
    exact gr_return dX5_divideOut_41 rfl (Nat.le_refl _) (Nat.le_refl _) ⟨by rw [← hres]; rfl, rfl⟩
  | succ k ih =>
    intro c r x4 hk hres
    rw [dn_top]
    refine gr_iload_n dX5_divideOut_5 rfl ?_
    refine gr_ifltN dX5_divideOut_6 41 (by decide) (by omega) ?_
    refine gr_aload_n dX5_divideOut_9 rfl ?_
    refine gr_getf dX5_divideOut_10 cls_X5 1 (by decide) fl_X5_15 (ro_0 hA) rfl ?_
    refine gr_iload_n dX5_divideOut_13 rfl ?_
    refine gr_ialoadF dX5_divideOut_14 (ro_2 hA) (by omega) (by decide) ?_
    refine gr_iload_n dX5_divideOut_15 rfl ?_
    refine gr_iload_n dX5_divideOut_16 rfl ?_
    refine gr_imulN dX5_divideOut_17 ?_
    refine gr_iaddN dX5_divideOut_18 ?_
    refine gr_remP dX5_divideOut_19 dX5_divideOut_22 (by have := zmul_lt c x; have := zl (r k); omega) (zmad2 _ _ _) ?_
    refine gr_istore dX5_divideOut_23 (by decide) rfl ?_
    refine gr_aload_n dX5_divideOut_25 rfl ?_
    refine gr_getf dX5_divideOut_26 cls_X5 1 (by decide) fl_X5_15 (ro_0 hA) rfl ?_
    refine gr_iload_n dX5_divideOut_29 rfl ?_
    refine gr_iload_n dX5_divideOut_30 rfl ?_
    refine gr_iastoreF dX5_divideOut_31 (ro_2 hA) (by omega) (by decide) ?_
    rw [ro_w2 hA]
    refine gr_iload dX5_divideOut_32 rfl ?_
    refine gr_istore_n dX5_divideOut_34 (by decide) rfl ?_
    refine gr_iinc (v := nI k - nI 1) dX5_divideOut_35 rfl (dn_step k) (by decide) rfl ?_
    refine gr_goto 5 dX5_divideOut_38 (by decide) ?_
    exact ih _ _ _ (by omega) hres

set_option maxHeartbeats 4000000 in
set_option maxRecDepth 100000 in
theorem c_divideOut (l : Launch) (E : ga_E) (d : Nat) (h : ga_H) (A : Nat → Nat) (n : Nat) (f r p i w s : Nat → zp) (hA : ga_inj A 7) (x : zp) : ga_Ok l E d mX5_divideOut [.ref (A 0), .int (nI x.val)] (roH E h A n f r p i w s) 0 0 (fun r0 h' => h' = roH E h A n f (dvR x 7 0 r) p i w s ∧ r0 = none) := by
  refine ga_Ok.of 3 _ (by decide) rfl (Nat.le_of_ble_eq_true rfl) rfl ?_
  refine gr_iconst (v := nI (0 : zp).val) dX5_divideOut_0 rfl ?_
  refine gr_istore_n dX5_divideOut_1 (by decide) rfl ?_
  refine gr_bipush (v := nI 7 - nI 1) dX5_divideOut_2 (by decide) ?_
  refine gr_istore_n dX5_divideOut_4 (by decide) rfl ?_
  exact c_dv_loop l E d h A n f p i w s hA x _ 7 0 r _ (by omega) rfl

/-- the k-th one, -1 if there is none such *)-/
def roAt (n : Nat) (f : Nat → zp) (k : Int32) : Int32 := if k < 0 then -1 else if nI n ≤ k then -1 else nI (f k.toNatClampNeg).val

set_option maxHeartbeats 4000000 in
set_option maxRecDepth 100000 in
theorem c_roAt (l : Launch) (E : ga_E) (d : Nat) (h : ga_H) (A : Nat → Nat) (n : Nat) (f r p i w s : Nat → zp) (hA : ga_inj A 7) (hn : n ≤ 6) (k : Int32) : ga_Ok l E d mX5_at [.ref (A 0), .int k] (roH E h A n f r p i w s) 0 0 (fun r0 h' => h' = roH E h A n f r p i w s ∧ r0 = some (.int (roAt n f k))) := by
  refine ga_Ok.of 0 _ (by decide) rfl (Nat.le_of_ble_eq_true rfl) rfl ?_
  refine gr_iload_n dX5_at_0 rfl ?_
  refine gr_iflt 30 dX5_at_1 (by decide) (fun c_1 => ?_) (fun c_1 => ?_)
  · refine gr_iconst (v := -1) dX5_at_30 (by decide) ?_
    exact gr_ireturn dX5_at_31 rfl (Nat.le_refl _) (Nat.le_refl _) ⟨rfl, by unfold roAt; rw [if_pos c_1]⟩
  · obtain ⟨j, hj, rfl⟩ := nI_of c_1
    refine gr_iload_n dX5_at_4 rfl (gr_aload_n dX5_at_5 rfl (gr_getf dX5_at_6 cls_X5 6 (by decide) fl_X5_30 (ro_0 hA) rfl ?_))
    refine gr_icmpgeN 30 dX5_at_9 (by decide) hj (by omega) (fun c_9 => ?_) (fun c_9 => ?_)
    · refine gr_iconst (v := -1) dX5_at_30 (by decide) ?_
      exact gr_ireturn dX5_at_31 rfl (Nat.le_refl _) (Nat.le_refl _) ⟨rfl, by unfold roAt; rw [if_neg c_1, if_pos (nI_le c_9 hj)]⟩
    · refine gr_iload_n dX5_at_12 rfl (gr_aload_n dX5_at_13 rfl (gr_getf dX5_at_14 cls_X5 0 (by decide) fl_X5_9 (ro_0 hA) rfl (gr_alen_i dX5_at_17 (ro_1 hA) ?_)))
      refine gr_icmpgeN 30 dX5_at_18 (by decide) hj (by decide) (fun z => absurd z (by omega)) (fun _ => ?_)
      refine gr_aload_n dX5_at_21 rfl (gr_getf dX5_at_22 cls_X5 0 (by decide) fl_X5_9 (ro_0 hA) rfl (gr_iload_n dX5_at_25 rfl (gr_ialoadF dX5_at_26 (ro_1 hA) (by omega) (by decide) (gr_goto 31 dX5_at_27 (by decide) ?_))))
      exact gr_ireturn dX5_at_31 rfl (Nat.le_refl _) (Nat.le_refl _) ⟨rfl, by unfold roAt; rw [if_neg c_1, if_neg (nI_ge c_9 (by omega)), nI_clamp hj]⟩

/-- k roots split off, put in order, divided out *)-/
def fdR : Nat → Nat → (Nat → zp) → (Nat → zp) → Nat × (Nat → zp) × (Nat → zp)
  | 0, n, f, r => (n, f, r)
  | k + 1, n, f, r => fdR k (n + 1) (insR (-(spR 32003 0 r 0)) n f) (dvR (-(spR 32003 0 r 0)) 7 0 r)
def rtR (q : Nat → zp) : Nat → zp := ksR (pmon (pcut 7 q) 7)
def rtN (q f : Nat → zp) : Nat × (Nat → zp) × (Nat → zp) := fdR (pdeg (rtR q) 7 - 1) 0 f (rtR q)

set_option maxHeartbeats 4000000 in
set_option maxRecDepth 100000 in
theorem c_fd_loop (l : Launch) (E : ga_E) (d : Nat) (h : ga_H) (A : Nat → Nat) (hA : ga_inj A 7) (b : Nat) (N : Nat × (Nat → zp) × (Nat → zp)) : ∀ (k n : Nat) (f r p i w s : Nat → zp) (x3 : Option Value), n + k ≤ 6 → pz 7 r → pz 7 p → pz 7 i → pz 7 w → pz 13 s → fdR k n f r = N → ga_G l E mX5_find (ga_Rm (d + 5) 0 0) (ga_Z E (fun r0 h' => ∃ r' p' i' w' s', pz 7 r' ∧ pz 7 p' ∧ pz 7 i' ∧ pz 7 w' ∧ pz 13 s' ∧ h' = roH E h A N.1 N.2.1 r' p' i' w' s' ∧ r0 = none) 0 0) 57 [some (.ref (A 0)), some (.ref b), some (.int (nI k)), x3] [] (roH E h A n f r p i w s) 0 0 := by
  intro k
  induction k with
  | zero =>
    intro n f r p i w s x3 hk hr hp hi hw hs hN
    refine gr_iload_n dX5_find_57 rfl ?_
    refine gr_ifleN 82 dX5_find_58 (by decide) (by decide) (fun _ => ?_) (fun z => absurd rfl z)
    exact gr_return dX5_find_82 rfl (Nat.le_refl _) (Nat.le_refl _) ⟨r, p, i, w, s, hr, hp, hi, hw, hs, by rw [← hN]; rfl, rfl⟩
  | succ k ih =>
    intro n f r p i w s x3 hk hr hp hi hw hs hN
    refine gr_iload_n dX5_find_57 rfl ?_
    refine gr_ifleN 82 dX5_find_58 (by decide) (by omega) (fun z => absurd z (by omega)) (fun _ => ?_)
    refine gr_aload_n dX5_find_61 rfl ?_
    refine gr_callV dX5_find_62 (c_splitOffRoot l E d h A n f r p i w s hA hr hp hi hw hs) ysX5_splitOffRoot ⟨ml_X5_47, im_X5_splitOffRoot, sl_X5_splitOffRoot⟩ (ro_0 hA) (show vwCl[5]? = some (RX5, TX5, _) from rfl) rfl rfl (Nat.le_of_ble_eq_true rfl) ⟨(Nat.le_refl _), (Nat.le_refl _)⟩ ⟨(Nat.le_refl _), (Nat.le_refl _)⟩ (fun r0 h1 hp9 => ?_)
    obtain ⟨p1, i1, w1, s1, hp1, hi1, hw1, hs1, e1, rfl⟩ := hp9
    subst h1
    refine gr_istore_n dX5_find_65 (by decide) rfl ?_
    refine gr_aload_n dX5_find_66 rfl ?_
    refine gr_iload_n dX5_find_67 rfl ?_
    refine gr_callV dX5_find_68 (c_insert l E (d + 4) h A n f r p1 i1 w1 s1 hA _ (by omega)) ysX5_insert ⟨ml_X5_51, im_X5_insert, sl_X5_insert⟩ (ro_0 hA) (show vwCl[5]? = some (RX5, TX5, _) from rfl) rfl rfl (Nat.le_of_ble_eq_true rfl) ⟨(Nat.le_refl _), (Nat.le_refl _)⟩ ⟨(Nat.le_refl _), (Nat.le_refl _)⟩ (fun r0 h1 hp9 => ?_)
    obtain ⟨e1, rfl⟩ := hp9
    subst h1
    refine gr_aload_n dX5_find_71 rfl ?_
    refine gr_iload_n dX5_find_72 rfl ?_
    refine gr_callV dX5_find_73 (c_divideOut l E (d + 4) h A _ _ r p1 i1 w1 s1 hA _) ysX5_divideOut ⟨ml_X5_55, im_X5_divideOut, sl_X5_divideOut⟩ (ro_0 hA) (show vwCl[5]? = some (RX5, TX5, _) from rfl) rfl rfl (Nat.le_of_ble_eq_true rfl) ⟨(Nat.le_refl _), (Nat.le_refl _)⟩ ⟨(Nat.le_refl _), (Nat.le_refl _)⟩ (fun r0 h1 hp9 => ?_)
    obtain ⟨e1, rfl⟩ := hp9
    subst h1
    refine gr_iinc (v := nI k) dX5_find_76 rfl (dn_stepS k) (by decide) rfl ?_
    refine gr_goto 57 dX5_find_79 (by decide) ?_
    exact ih (n + 1) _ _ _ _ _ _ _ (by omega) (pz_dvR (by decide) hr) hp1 hi1 hw1 hs1 hN

set_option maxHeartbeats 4000000 in
set_option maxRecDepth 100000 in
theorem c_fd_mid (l : Launch) (E : ga_E) (d : Nat) (h : ga_H) (A : Nat → Nat) (hA : ga_inj A 7) (b : Nat) (N : Nat × (Nat → zp) × (Nat → zp)) (n : Nat) (f r p i w s : Nat → zp) (x2 x3 : Option Value) (hr : pz 7 r) (hp : pz 7 p) (hi : pz 7 i) (hw : pz 7 w) (hs : pz 13 s) (hn : n = 0) (hN : fdR (pdeg (ksR (pmon r 7)) 7 - 1) 0 f (ksR (pmon r 7)) = N) : ga_G l E mX5_find (ga_Rm (d + 5) 0 0) (ga_Z E (fun r0 h' => ∃ r' p' i' w' s', pz 7 r' ∧ pz 7 p' ∧ pz 7 i' ∧ pz 7 w' ∧ pz 13 s' ∧ h' = roH E h A N.1 N.2.1 r' p' i' w' s' ∧ r0 = none) 0 0) 38 [some (.ref (A 0)), some (.ref b), x2, x3] [] (roH E h A n f r p i w s) 0 0 := by
  refine gr_aload_n dX5_find_38 rfl ?_
  refine gr_getf dX5_find_39 cls_X5 1 (by decide) fl_X5_15 (ro_0 hA) rfl ?_
  refine gr_callS dX5_find_42 (c_makeMonic l E (d + 3) _ (A 2) 7 r (ro_2 hA) (by decide)) ysX4_makeMonic ⟨ml_X5_34, sm_X4_makeMonic⟩ rfl rfl (Nat.le_of_ble_eq_true rfl) ⟨(Nat.le_refl _), (Nat.le_refl _)⟩ ⟨(Nat.le_refl _), (Nat.le_refl _)⟩ (fun r0 h1 hp9 => ?_)
  obtain ⟨e1, rfl⟩ := hp9
  subst h1
  rw [ro_w2 hA]
  refine gr_aload_n dX5_find_45 rfl ?_
  refine gr_callV dX5_find_46 (c_keepSimpleRoots l E d h A n f _ p i w s hA (pz_mon hr) hw hs) ysX5_keepSimpleRoots ⟨ml_X5_40, im_X5_keepSimpleRoots, sl_X5_keepSimpleRoots⟩ (ro_0 hA) (show vwCl[5]? = some (RX5, TX5, _) from rfl) rfl rfl (Nat.le_of_ble_eq_true rfl) ⟨(Nat.le_refl _), (Nat.le_refl _)⟩ ⟨(Nat.le_refl _), (Nat.le_refl _)⟩ (fun r0 h1 hp9 => ?_)
  obtain ⟨w1, s1, hw1, hs1, e1, rfl⟩ := hp9
  subst h1
  refine gr_aload_n dX5_find_49 rfl ?_
  refine gr_getf dX5_find_50 cls_X5 1 (by decide) fl_X5_15 (ro_0 hA) rfl ?_
  refine gr_callS dX5_find_53 (c_degree l E (d + 4) _ (A 2) 7 _ (ro_2 hA) (by decide)) ysX4_degree ⟨ml_X5_43, sm_X4_degree⟩ rfl rfl (Nat.le_of_ble_eq_true rfl) ⟨(Nat.le_refl _), (Nat.le_refl _)⟩ ⟨(Nat.le_refl _), (Nat.le_refl _)⟩ (fun r0 h1 hp9 => ?_)
  obtain ⟨e1, rfl⟩ := hp9
  subst h1
  have hle := pdeg_le (ksR (pmon r 7)) 7
  subst hn
  rcases hk : pdeg (ksR (pmon r 7)) 7 with _ | t
  · rw [hk] at hN
    refine gr_istore_n dX5_find_56 (by decide) rfl (gr_iload_n dX5_find_57 rfl ?_)
    refine gr_ifle 82 dX5_find_58 (by decide) (fun _ => ?_) (fun z => absurd (by decide) z)
    exact gr_return dX5_find_82 rfl (Nat.le_refl _) (Nat.le_refl _) ⟨_, p, i, w1, s1, pz_ksR (pz_mon hr), hp, hi, hw1, hs1, by rw [← hN]; rfl, rfl⟩
  · rw [hk] at hle hN
    refine gr_top (congrArg Value.int (dn_top t)) (gr_istore_n dX5_find_56 (by decide) rfl ?_)
    exact c_fd_loop l E d h A hA b N t 0 f _ p i w1 s1 _ (by omega) (pz_ksR (pz_mon hr)) hp hi hw1 hs1 hN

set_option maxHeartbeats 4000000 in
set_option maxRecDepth 100000 in
theorem c_fd_copy (l : Launch) (E : ga_E) (d : Nat) (h : ga_H) (A : Nat → Nat) (hA : ga_inj A 7) (b : Nat) (N : Nat × (Nat → zp) × (Nat → zp)) (q : Nat → zp) (hb : h b = some (ga_f E 7 q)) (hbA : ∀ k, k < 7 → b ≠ A k) (f p i w s : Nat → zp) (hp : pz 7 p) (hi : pz 7 i) (hw : pz 7 w) (hs : pz 13 s) (hN : rtN q f = N) (n : Nat) (hn : n = 0) : ∀ (g : Nat) (r : Nat → zp) (a : Nat), a + g = 7 → (∀ j, j < a → r j = q j) → pz 7 r → ga_G l E mX5_find (ga_Rm (d + 5) 0 0) (ga_Z E (fun r0 h' => ∃ r' p' i' w' s', pz 7 r' ∧ pz 7 p' ∧ pz 7 i' ∧ pz 7 w' ∧ pz 13 s' ∧ h' = roH E h A N.1 N.2.1 r' p' i' w' s' ∧ r0 = none) 0 0) 7 [some (.ref (A 0)), some (.ref b), some (.int (nI a)), none] [] (roH E h A n f r p i w s) 0 0 := by
  intro g
  induction g with
  | zero =>
    intro r a ha hlt hr
    refine gr_iload_n dX5_find_7 rfl (gr_bipush (v := nI 7) dX5_find_8 (by decide) ?_)
    refine gr_icmpgeN 38 dX5_find_10 (by decide) (by omega) (by decide) (fun _ => ?_) (fun z => absurd z (by omega))
    have e0 : r = pcut 7 q := by
      funext j; unfold pcut
      by_cases c : j < 7
      · rw [if_pos c]; exact hlt j (by omega)
      · rw [if_neg c]; exact hr j (by omega)
    exact c_fd_mid l E d h A hA b N n f r p i w s _ _ hr hp hi hw hs hn (by rw [← hN, e0]; rfl)
  | succ g ih =>
    intro r a ha hlt hr
    have hbb : roH E h A n f r p i w s b = some (ga_f E 7 q) := (ga_ov_out hbA).trans hb
    refine gr_iload_n dX5_find_7 rfl (gr_bipush (v := nI 7) dX5_find_8 (by decide) ?_)
    refine gr_icmpgeN 38 dX5_find_10 (by decide) (by omega) (by decide) (fun z => absurd z (by omega)) (fun _ => ?_)
    refine gr_aload_n dX5_find_13 rfl ?_
    refine gr_getf dX5_find_14 cls_X5 1 (by decide) fl_X5_15 (ro_0 hA) rfl ?_
    refine gr_iload_n dX5_find_17 rfl ?_
    refine gr_iload_n dX5_find_18 rfl ?_
    refine gr_aload_n dX5_find_19 rfl ?_
    refine gr_alen_i dX5_find_20 hbb ?_
    refine gr_icmpgeN 30 dX5_find_21 (by decide) (by omega) (by decide) (fun z => absurd z (by omega)) (fun _ => ?_)
    refine gr_aload_n dX5_find_24 rfl ?_
    refine gr_iload_n dX5_find_25 rfl ?_
    refine gr_ialoadF dX5_find_26 hbb (by omega) (by decide) ?_
    refine gr_goto 31 dX5_find_27 (by decide) ?_
    refine gr_iastoreF dX5_find_31 (ro_2 hA) (by omega) (by decide) ?_
    rw [ro_w2 hA]
    refine gr_iinc (v := nI (_ + 1)) dX5_find_32 rfl (nI_1 _) (by decide) rfl ?_
    refine gr_goto 7 dX5_find_35 (by decide) ?_
    refine ih _ (a + 1) (by omega) (fun j hj => ?_) (pz_up hr (by omega))
    by_cases e : j = a
    · rw [show va_up r a (q a) j = q a from if_pos e, e]
    · exact (if_neg e : va_up r a (q a) j = r j).trans (hlt j (by omega))

set_option maxHeartbeats 4000000 in
set_option maxRecDepth 100000 in
theorem c_find (l : Launch) (E : ga_E) (d : Nat) (h : ga_H) (A : Nat → Nat) (hA : ga_inj A 7) (b : Nat) (n : Nat) (q f r p i w s : Nat → zp) (hb : h b = some (ga_f E 7 q)) (hbA : ∀ k, k < 7 → b ≠ A k) (hr : pz 7 r) (hp : pz 7 p) (hi : pz 7 i) (hw : pz 7 w) (hs : pz 13 s) : ga_Ok l E (d + 5) mX5_find [.ref (A 0), .ref b] (roH E h A n f r p i w s) 0 0 (fun r0 h' => ∃ r' p' i' w' s', pz 7 r' ∧ pz 7 p' ∧ pz 7 i' ∧ pz 7 w' ∧ pz 13 s' ∧ h' = roH E h A (rtN q f).1 (rtN q f).2.1 r' p' i' w' s' ∧ r0 = none) := by
  refine ga_Ok.of 2 _ (by decide) rfl (Nat.le_of_ble_eq_true rfl) rfl ?_
  refine gr_aload_n dX5_find_0 rfl ?_
  refine gr_iconst (v := nI 0) dX5_find_1 rfl ?_
  refine gr_putf dX5_find_2 cls_X5 6 (by decide) fl_X5_30 rfl rfl rfl (by show 6 < 7; decide) (ro_0 hA) ?_
  refine gr_h (ro_w0 hA 0) ?_
  refine gr_iconst (v := nI 0) dX5_find_5 rfl ?_
  refine gr_istore_n dX5_find_6 (by decide) rfl ?_
  exact c_fd_copy l E d h A hA b _ q hb hbA f p i w s hp hi hw hs rfl 0 rfl 7 r 0 (by omega) (fun j hj => absurd hj (by omega)) hr
