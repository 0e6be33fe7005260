/-! The component: run, value, singular, end, rest -/
set_option maxHeartbeats 4000000 in
set_option maxRecDepth 100000 in
theorem c_run (l : Launch) (E : ga_E) (d : Nat) (h : ga_H) (Z : Nat → Nat) (hZ : ga_inj Z 65) (o : Nat) (F : Nat → Nat → zp) (S : Nat → zp) (tr : Nat → zp) (zk : Bool) (kn : Bool) (mt : Bool) (bc : Nat) (n0 : Nat) (rv : Nat → zp) (pa : Nat → zp) (ba : Nat → zp) (bs : Nat → Nat) (bv : Nat → Nat → zp) (sn : Nat) (kv : Nat) (y : Nat → zp) (zn : Nat) (zf : Nat → zp) (cn : Nat) (cf : Nat → zp) (c : Nat → va_E) (hI : coI E Z c o F S tr zk kn mt bc n0 rv pa ba bs bv sn kv y zn zf cn cf) : ga_Ok l E (d + 8) mX8_run [.ref (Z 0)] (ga_ov h Z c 65) 0 0 (fun r0 h' => GreatS F none ∧ h' = ga_ov h Z c 65 ∧ r0 = some (.int (nI 1)) ∨ (∃ g, GreatS F (some g)) ∧ r0 = some (.int (nI 0)) ∧ (kn = true ∧ h' = ga_ov h Z c 65 ∨ kn = false ∧ ∃ (c' : Nat → va_E) (mt : Bool) (bc n0 : Nat) (rv pa ba : Nat → zp) (bs : Nat → Nat) (bv : Nat → Nat → zp) (cn : Nat) (cf : Nat → zp), coI E Z c' o F S tr zk true mt bc n0 rv pa ba bs bv sn kv y zn zf cn cf ∧ bc ≤ 4 ∧ n0 ≤ 13 ∧ ResP (fillK F S 1 5) n0 rv ∧ ResM (fillK F S 1 5) mt pa ∧ ResB (fun z => fillK F S z 5) (fun y => ev (tnP F) 7 y = 0) bc ba bs bv ∧ h' = ga_ov h Z c' 65)) := by
  refine ga_Ok.of 0 _ (by decide) rfl (Nat.le_of_ble_eq_true rfl) rfl ?_
  refine gr_aload_n dX8_run_0 rfl ?_
  refine gr_getf dX8_run_1 cls_X8 0 (by decide) fl_X8_23 (co_ra hZ hI) rfl ?_
  refine gr_callV dX8_run_4 (c_greatestShift l E (d + 6) _ _ o F S (co_eq hZ hI)) ysX1_greatestShift ⟨ml_X8_103, im_X1_greatestShift, sl_X1_greatestShift⟩ (eq_0 (co_eq hZ hI)) (show vwCl[3]? = some (RX1, TX1, _) from rfl) rfl rfl (Nat.le_of_ble_eq_true rfl) ⟨(Nat.le_refl _), (Nat.le_refl _)⟩ ⟨(Nat.le_refl _), (Nat.le_refl _)⟩ (fun r0 h1 hp9 => ?_)
  obtain ⟨rfl, q, rfl, hq⟩ := hp9
  rcases q with _ | g
  · refine gr_ifge 12 dX8_run_7 (by decide) (fun z => absurd z (by decide)) (fun _ => ?_)
    refine gr_iconst (v := nI 1) dX8_run_10 rfl ?_
    exact gr_ireturn dX8_run_11 rfl (Nat.le_refl _) (Nat.le_refl _) (Or.inl ⟨hq, rfl, rfl⟩)
  · have hg5 : g < 5 := by
      rcases hq with ⟨z, -⟩ | ⟨i, z, hi, -⟩
      · cases z
      · cases z; exact hi
    refine gr_top (congrArg Value.int (show optI (some g) = nI g from rfl)) (gr_ifge 12 dX8_run_7 (by decide) (fun _ => ?_) (fun z => absurd (Int32.not_lt.mp (nI_pos (by omega))) z))
    refine gr_aload_n dX8_run_12 rfl ?_
    refine gr_getf dX8_run_13 cls_X8 2 (by decide) fl_X8_37 (co_ra hZ hI) rfl ?_
    refine gr_getf dX8_run_16 cls_X0 2 (by decide) fl_X8_107 (co_an hZ hI) rfl ?_
    cases kn
    · refine gr_ifne 37 dX8_run_19 (by decide) (fun z => absurd rfl z) (fun _ => ?_)
      refine gr_aload_n dX8_run_22 rfl ?_
      refine gr_getf dX8_run_23 cls_X8 2 (by decide) fl_X8_37 (co_ra hZ hI) rfl ?_
      refine gr_aload_n dX8_run_26 rfl ?_
      refine gr_getf dX8_run_27 cls_X8 0 (by decide) fl_X8_23 (co_ra hZ hI) rfl ?_
      refine gr_aload_n dX8_run_30 rfl ?_
      refine gr_getf dX8_run_31 cls_X8 1 (by decide) fl_X8_30 (co_ra hZ hI) rfl ?_
      refine gr_callV dX8_run_34 (c_anFind l E d h Z hZ o F S tr zk false mt bc n0 rv pa ba bs bv sn kv y zn zf cn cf c hI (great_dmax hq)) ysX0_find ⟨ml_X8_111, im_X0_find, sl_X0_find⟩ (co_an hZ hI) (show vwCl[2]? = some (RX0, TX0, _) from rfl) rfl rfl (Nat.le_of_ble_eq_true rfl) ⟨(Nat.le_refl _), (Nat.le_refl _)⟩ ⟨(Nat.le_refl _), (Nat.le_refl _)⟩ (fun r0 h1 hp9 => ?_)
      obtain ⟨c2, mt2, bc2, n2, rv2, pa2, ba2, bs2, bv2, cn2, cf2, hI2, b1, b2, hP, hM, hB, rfl, rfl⟩ := hp9
      refine gr_iconst (v := nI 0) dX8_run_37 rfl ?_
      exact gr_ireturn dX8_run_38 rfl (Nat.le_refl _) (Nat.le_refl _) (Or.inr ⟨⟨g, hq⟩, rfl, Or.inr ⟨rfl, c2, mt2, bc2, n2, rv2, pa2, ba2, bs2, bv2, cn2, cf2, hI2, b1, b2, hP, hM, hB, rfl⟩⟩)
    · refine gr_ifne 37 dX8_run_19 (by decide) (fun _ => ?_) (fun z => absurd z (by decide))
      refine gr_iconst (v := nI 0) dX8_run_37 rfl ?_
      exact gr_ireturn dX8_run_38 rfl (Nat.le_refl _) (Nat.le_refl _) (Or.inr ⟨⟨g, hq⟩, rfl, Or.inl ⟨rfl, rfl⟩⟩)

set_option maxHeartbeats 4000000 in
set_option maxRecDepth 100000 in
theorem c_value (l : Launch) (hl0 : l.stackTraces = false) (E : ga_E) (d : Nat) (h : ga_H) (Z : Nat → Nat) (hZ : ga_inj Z 65) (o : Nat) (F : Nat → Nat → zp) (S : Nat → zp) (tr : Nat → zp) (zk : Bool) (kn : Bool) (mt : Bool) (bc : Nat) (n0 : Nat) (rv : Nat → zp) (pa : Nat → zp) (ba : Nat → zp) (bs : Nat → Nat) (bv : Nat → Nat → zp) (sn : Nat) (kv : Nat) (y : Nat → zp) (zn : Nat) (zf : Nat → zp) (cn : Nat) (cf : Nat → zp) (c : Nat → va_E) (hI : coI E Z c o F S tr zk kn mt bc n0 rv pa ba bs bv sn kv y zn zf cn cf) (hsk : sn ≤ kv) (hk3 : kv ≤ 301) (n : Int32) : ga_OkX l E (d + 8) mX8_value [.ref (Z 0), .int n] (ga_ov h Z c 65) 1 6 (fun r0 h' => cdP 301 n = 0 ∧ ∃ q, GreatS F q ∧ ((q = none ∨ ∃ g, q = some g ∧ sn < g) ∧ h' = ga_ov h Z c 65 ∧ r0 = some (.int (-1)) ∨ ∃ g, q = some g ∧ g ≤ sn ∧ ∃ c', coI E Z c' o F S tr zk kn mt bc n0 rv pa ba bs bv sn (vaR F S g (ix n + 1 - kv) kv y).2.1 (vaR F S g (ix n + 1 - kv) kv y).2.2 zn zf cn cf ∧ h' = ga_ov h Z c' 65 ∧ r0 = some (.int (if (vaR F S g (ix n + 1 - kv) kv y).1 = true then nI ((vaR F S g (ix n + 1 - kv) kv y).2.2 (ix n)).val else -1)))) (fun Y h' => Y = nmI ∧ cdP 301 n = 1 ∧ h' = ga_ov h Z c 65) := by
  refine ga_OkX.of 0 _ (by decide) rfl (Nat.le_of_ble_eq_true rfl) rfl ?_
  refine gr_iload_n dX8_value_0 rfl ?_
  refine gr_iflt 11 dX8_value_1 (by decide) (fun c_1 => ?_) (fun c_1 => ?_)
  · exact gr_throw hl0 rfl rfl (thr_I (is := 158) (text := "n is 0 .. 300") (by decide)) dX8_value_11 dX8_value_14 dX8_value_15 dX8_value_17 dX8_value_20 ⟨by show 7 ≤ d + 8; omega, by show 448 ≤ 64 * (d + 8); omega⟩ (Nat.le_of_ble_eq_true rfl) ⟨(Nat.le_of_ble_eq_true rfl), (Nat.le_of_ble_eq_true rfl)⟩ ⟨(Nat.le_of_ble_eq_true rfl), (Nat.le_of_ble_eq_true rfl)⟩ ⟨rfl, by unfold cdP; rw [ltR_neg c_1]; rfl, rfl⟩
  · obtain ⟨j, hj, rfl⟩ := nI_of c_1
    refine gr_iload_n dX8_value_4 rfl ?_
    refine gr_sipush (v := nI 301) dX8_value_5 (by decide) ?_
    refine gr_icmpltN 21 dX8_value_8 (by decide) hj (by omega) (fun c_8 => ?_) (fun c_8 => ?_)
    · refine gr_aload_n dX8_value_21 rfl ?_
      refine gr_getf dX8_value_22 cls_X8 3 (by decide) fl_X8_44 (co_ra hZ hI) rfl ?_
      refine gr_aload_n dX8_value_25 rfl ?_
      refine gr_getf dX8_value_26 cls_X8 0 (by decide) fl_X8_23 (co_ra hZ hI) rfl ?_
      refine gr_iload_n dX8_value_29 rfl ?_
      refine gr_h (co_vs hZ hI) ?_
      refine gr_callV dX8_value_30 (c_valuesAt l E (d + 5) _ (Z 56) (Z 57) sn (Zne hZ (by omega) (by omega) (by omega)) _ o F S (co_eq hZ hI) (fun k hk => ⟨(Zne hZ (by omega) (by omega) (by omega)), (Zne hZ (by omega) (by omega) (by omega))⟩) j c_8 kv y hsk hk3) ysX7_at ⟨ml_X8_160, im_X7_at, sl_X7_at⟩ vh_0 (show vwCl[7]? = some (RX7, TX7, _) from rfl) rfl rfl (Nat.le_of_ble_eq_true rfl) ⟨(Nat.le_refl _), (Nat.le_refl _)⟩ ⟨(Nat.le_of_ble_eq_true rfl), (Nat.le_of_ble_eq_true rfl)⟩ (fun r0 h1 hp9 => ?_)
      have hcd : cdP 301 (nI j) = 0 := by unfold cdP; rw [if_pos (ltR_lt hj c_8)]
      obtain ⟨q, hq, ⟨hA, rfl, rfl⟩ | ⟨g, rfl, hg, rfl, rfl⟩⟩ := hp9
      · refine gr_h (co_vs hZ hI).symm ?_
        exact gr_X (gr_ireturn dX8_value_33 rfl (Nat.le_of_ble_eq_true rfl) (Nat.le_of_ble_eq_true rfl) ⟨hcd, q, hq, Or.inl ⟨hA, rfl, rfl⟩⟩)
      · refine gr_h (co_vb hZ _ _ _) ?_
        exact gr_X (gr_ireturn dX8_value_33 rfl (Nat.le_of_ble_eq_true rfl) (Nat.le_of_ble_eq_true rfl) ⟨hcd, some g, hq, Or.inr ⟨g, rfl, hg, _, (by rw [ix_nI hj]; exact cu_v0 (cu_v1 hI _) sn _), rfl, by rw [ix_nI hj]⟩⟩)
    · exact gr_throw hl0 rfl rfl (thr_I (is := 158) (text := "n is 0 .. 300") (by decide)) dX8_value_11 dX8_value_14 dX8_value_15 dX8_value_17 dX8_value_20 ⟨by show 7 ≤ d + 8; omega, by show 448 ≤ 64 * (d + 8); omega⟩ (Nat.le_of_ble_eq_true rfl) ⟨(Nat.le_of_ble_eq_true rfl), (Nat.le_of_ble_eq_true rfl)⟩ ⟨(Nat.le_of_ble_eq_true rfl), (Nat.le_of_ble_eq_true rfl)⟩ ⟨rfl, by unfold cdP; rw [ltR_ge hj (by omega)]; rfl, rfl⟩

set_option maxHeartbeats 4000000 in
set_option maxRecDepth 100000 in
theorem c_singular (l : Launch) (E : ga_E) (d : Nat) (h : ga_H) (Z : Nat → Nat) (hZ : ga_inj Z 65) (o : Nat) (F : Nat → Nat → zp) (S : Nat → zp) (tr : Nat → zp) (zk : Bool) (kn : Bool) (mt : Bool) (bc : Nat) (n0 : Nat) (rv : Nat → zp) (pa : Nat → zp) (ba : Nat → zp) (bs : Nat → Nat) (bv : Nat → Nat → zp) (sn : Nat) (kv : Nat) (y : Nat → zp) (zn : Nat) (zf : Nat → zp) (cn : Nat) (cf : Nat → zp) (c : Nat → va_E) (hI : coI E Z c o F S tr zk kn mt bc n0 rv pa ba bs bv sn kv y zn zf cn cf) (hzk : zk = true → zn ≤ 6 ∧ Inc zn zf ∧ ∀ g, GreatS F (some g) → ∀ y, Has zn zf y ↔ ev (F g) 7 y = 0) (k : Int32) : ga_Ok l E (d + 6) mX8_singular [.ref (Z 0), .int k] (ga_ov h Z c 65) 0 0 (fun r0 h' => ∃ q, GreatS F q ∧ (q = none ∧ h' = ga_ov h Z c 65 ∧ r0 = some (.int (-1)) ∨ ∃ g, q = some g ∧ ∃ (c' : Nat → va_E) (zn : Nat) (zf : Nat → zp), coI E Z c' o F S tr true kn mt bc n0 rv pa ba bs bv sn kv y zn zf cn cf ∧ zn ≤ 6 ∧ Inc zn zf ∧ (∀ y, Has zn zf y ↔ ev (F g) 7 y = 0) ∧ h' = ga_ov h Z c' 65 ∧ r0 = some (.int (roAt zn zf k)))) := by
  refine ga_Ok.of 1 _ (by decide) rfl (Nat.le_of_ble_eq_true rfl) rfl ?_
  refine gr_aload_n dX8_singular_0 rfl ?_
  refine gr_getf dX8_singular_1 cls_X8 0 (by decide) fl_X8_23 (co_ra hZ hI) rfl ?_
  refine gr_callV dX8_singular_4 (c_greatestShift l E (d + 4) _ _ o F S (co_eq hZ hI)) ysX1_greatestShift ⟨ml_X8_103, im_X1_greatestShift, sl_X1_greatestShift⟩ (eq_0 (co_eq hZ hI)) (show vwCl[3]? = some (RX1, TX1, _) from rfl) rfl rfl (Nat.le_of_ble_eq_true rfl) ⟨(Nat.le_refl _), (Nat.le_refl _)⟩ ⟨(Nat.le_refl _), (Nat.le_refl _)⟩ (fun r0 h1 hp9 => ?_)
  obtain ⟨rfl, q, rfl, hq⟩ := hp9
  refine gr_istore_n dX8_singular_7 (by decide) rfl ?_
  refine gr_iload_n dX8_singular_8 rfl ?_
  rcases q with _ | g
  · refine gr_ifge 14 dX8_singular_9 (by decide) (fun z => absurd z (by decide)) (fun _ => ?_)
    refine gr_iconst (v := -1) dX8_singular_12 (by decide) ?_
    exact gr_ireturn dX8_singular_13 rfl (Nat.le_refl _) (Nat.le_refl _) ⟨none, hq, Or.inl ⟨rfl, rfl, rfl⟩⟩
  · have hg5 : g < 5 := by
      rcases hq with ⟨z, -⟩ | ⟨i, z, hi, -⟩
      · cases z
      · cases z; exact hi
    have hgd : pdeg (F g) 7 ≠ 0 := by
      rcases hq with ⟨z, -⟩ | ⟨i, z, hi, hn, -⟩
      · cases z
      · cases z; exact hn
    refine gr_top (congrArg Value.int (show optI (some g) = nI g from rfl)) (gr_ifge 14 dX8_singular_9 (by decide) (fun _ => ?_) (fun z => absurd (Int32.not_lt.mp (nI_pos (by omega))) z))
    refine gr_aload_n dX8_singular_14 rfl ?_
    refine gr_getf dX8_singular_15 cls_X8 5 (by decide) fl_X8_164 (co_ra hZ hI) rfl ?_
    cases zk
    · refine gr_ifne 42 dX8_singular_18 (by decide) (fun z => absurd rfl z) (fun _ => ?_)
      refine gr_aload_n dX8_singular_21 rfl ?_
      refine gr_getf dX8_singular_22 cls_X8 4 (by decide) fl_X8_51 (co_ra hZ hI) rfl ?_
      refine gr_aload_n dX8_singular_25 rfl ?_
      refine gr_getf dX8_singular_26 cls_X8 0 (by decide) fl_X8_23 (co_ra hZ hI) rfl ?_
      refine gr_getf dX8_singular_29 cls_X1 1 (by decide) fl_X8_86 (eq_0 (co_eq hZ hI)) rfl ?_
      refine gr_iload_n dX8_singular_32 rfl ?_
      refine gr_aaloadI dX8_singular_33 (eq_1 (co_eq hZ hI)) (by omega) (by decide) (eq_R (by omega)) ?_
      obtain ⟨r9, p9, i9, w9, s9, hz9, hzr9⟩ := co_zr (h := h) hZ hI
      refine gr_h hzr9 ?_
      refine gr_callV dX8_singular_34 (c_find l E d _ _ (inj_sub hZ (by omega)) _ zn (F g) zf r9 p9 i9 w9 s9 (eq_r (co_eq hZ hI) hg5) (fun k hk => Zne hZ (by omega) (by omega) (by omega)) hz9.1 hz9.2.1 hz9.2.2.1 hz9.2.2.2.1 hz9.2.2.2.2) ysX5_find ⟨ml_X8_167, im_X5_find, sl_X5_find⟩ (ro_0 (inj_sub hZ (by omega))) (show vwCl[5]? = some (RX5, TX5, _) from rfl) rfl rfl (Nat.le_of_ble_eq_true rfl) ⟨(Nat.le_refl _), (Nat.le_refl _)⟩ ⟨(Nat.le_refl _), (Nat.le_refl _)⟩ (fun r0 h1 hp9 => ?_)
      obtain ⟨r8, p8, i8, w8, s8, q1, q2, q3, q4, q5, rfl, rfl⟩ := hp9
      refine gr_h (ov_blk hZ (by omega)) ?_
      have hI2 := cu_zr hI (rtN (F g) zf).1 (rtN (F g) zf).2.1 ⟨q1, q2, q3, q4, q5⟩
      refine gr_aload_n dX8_singular_37 rfl ?_
      refine gr_iconst (v := nI 1) dX8_singular_38 rfl ?_
      refine gr_putf dX8_singular_39 cls_X8 5 (by decide) fl_X8_164 rfl rfl rfl (Nat.le_of_ble_eq_true rfl) (co_ra hZ hI2) ?_
      refine gr_h (up_blk hZ (by omega)) ?_
      have hI3 := cu_z0 hI2 true
      obtain ⟨z1, z2, z3⟩ := find_spec (f := zf) hgd
      refine gr_aload_n dX8_singular_42 rfl ?_
      refine gr_getf dX8_singular_43 cls_X8 4 (by decide) fl_X8_51 (co_ra hZ hI3) rfl ?_
      refine gr_iload_n dX8_singular_46 rfl ?_
      obtain ⟨r7, p7, i7, w7, s7, hz7, hzR7⟩ := co_zr (h := h) hZ hI3
      refine gr_h hzR7 ?_
      refine gr_callV dX8_singular_47 (c_roAt l E (d + 5) _ _ _ _ r7 p7 i7 w7 s7 (inj_sub hZ (by omega)) z1 k) ysX5_at ⟨ml_X8_170, im_X5_at, sl_X5_at⟩ (ro_0 (inj_sub hZ (by omega))) (show vwCl[5]? = some (RX5, TX5, _) from rfl) rfl rfl (Nat.le_of_ble_eq_true rfl) ⟨(Nat.le_refl _), (Nat.le_refl _)⟩ ⟨(Nat.le_refl _), (Nat.le_refl _)⟩ (fun r0 h1 hp9 => ?_)
      obtain ⟨rfl, rfl⟩ := hp9
      refine gr_h hzR7.symm ?_
      exact gr_ireturn dX8_singular_50 rfl (Nat.le_refl _) (Nat.le_refl _) ⟨some g, hq, Or.inr ⟨g, rfl, _, _, _, hI3, z1, z2, z3, rfl, rfl⟩⟩
    · refine gr_ifne 42 dX8_singular_18 (by decide) (fun _ => ?_) (fun z => absurd z (by decide))
      obtain ⟨z1, z2, z3⟩ := hzk rfl
      refine gr_aload_n dX8_singular_42 rfl ?_
      refine gr_getf dX8_singular_43 cls_X8 4 (by decide) fl_X8_51 (co_ra hZ hI) rfl ?_
      refine gr_iload_n dX8_singular_46 rfl ?_
      obtain ⟨r9, p9, i9, w9, s9, hz9, hzr9⟩ := co_zr (h := h) hZ hI
      refine gr_h hzr9 ?_
      refine gr_callV dX8_singular_47 (c_roAt l E (d + 5) _ _ zn zf r9 p9 i9 w9 s9 (inj_sub hZ (by omega)) z1 k) ysX5_at ⟨ml_X8_170, im_X5_at, sl_X5_at⟩ (ro_0 (inj_sub hZ (by omega))) (show vwCl[5]? = some (RX5, TX5, _) from rfl) rfl rfl (Nat.le_of_ble_eq_true rfl) ⟨(Nat.le_refl _), (Nat.le_refl _)⟩ ⟨(Nat.le_refl _), (Nat.le_refl _)⟩ (fun r0 h1 hp9 => ?_)
      obtain ⟨rfl, rfl⟩ := hp9
      refine gr_h hzr9.symm ?_
      exact gr_ireturn dX8_singular_50 rfl (Nat.le_refl _) (Nat.le_refl _) ⟨some g, hq, Or.inr ⟨g, rfl, c, zn, zf, hI, z1, z2, z3 g hq, rfl, rfl⟩⟩

set_option maxHeartbeats 4000000 in
set_option maxRecDepth 100000 in
theorem c_end (l : Launch) (hl0 : l.stackTraces = false) (E : ga_E) (d : Nat) (h : ga_H) (Z : Nat → Nat) (hZ : ga_inj Z 65) (o : Nat) (F : Nat → Nat → zp) (S : Nat → zp) (tr : Nat → zp) (zk : Bool) (kn : Bool) (mt : Bool) (bc : Nat) (n0 : Nat) (rv : Nat → zp) (pa : Nat → zp) (ba : Nat → zp) (bs : Nat → Nat) (bv : Nat → Nat → zp) (sn : Nat) (kv : Nat) (y : Nat → zp) (zn : Nat) (zf : Nat → zp) (cn : Nat) (cf : Nat → zp) (c : Nat → va_E) (hI : coI E Z c o F S tr zk kn mt bc n0 rv pa ba bs bv sn kv y zn zf cn cf) (w : Int32) : ga_OkX l E (d + 8) mX8_end [.ref (Z 0), .int w] (ga_ov h Z c 65) 1 6 (fun r0 h' => cdP 2 w = 0 ∧ h' = ga_ov h Z c 65 ∧ (ix w = 0 ∧ (∃ q, r0 = some (.int (optI q)) ∧ LeastS F q) ∨ ix w = 1 ∧ ∃ q, r0 = some (.int (optI q)) ∧ GreatS F q)) (fun Y h' => Y = nmI ∧ cdP 2 w = 1 ∧ h' = ga_ov h Z c 65) := by
  refine ga_OkX.of 0 _ (by decide) rfl (Nat.le_of_ble_eq_true rfl) rfl ?_
  refine gr_iload_n dX8_end_0 rfl ?_
  refine gr_ifeq 19 dX8_end_1 (by decide) (fun c_1 => ?_) (fun c_1 => ?_)
  · subst c_1
    refine gr_iload_n dX8_end_19 rfl ?_
    refine gr_ifne 33 dX8_end_20 (by decide) (fun z => absurd rfl z) (fun _ => ?_)
    refine gr_aload_n dX8_end_23 rfl ?_
    refine gr_getf dX8_end_24 cls_X8 0 (by decide) fl_X8_23 (co_ra hZ hI) rfl ?_
    refine gr_callV dX8_end_27 (c_leastShift l E (d + 6) _ _ o F S (co_eq hZ hI)) ysX1_leastShift ⟨ml_X8_175, im_X1_leastShift, sl_X1_leastShift⟩ (eq_0 (co_eq hZ hI)) (show vwCl[3]? = some (RX1, TX1, _) from rfl) rfl rfl (Nat.le_of_ble_eq_true rfl) ⟨(Nat.le_refl _), (Nat.le_refl _)⟩ ⟨(Nat.le_of_ble_eq_true rfl), (Nat.le_of_ble_eq_true rfl)⟩ (fun r0 h1 hp9 => ?_)
    obtain ⟨rfl, q, rfl, hq⟩ := hp9
    refine gr_goto 40 dX8_end_30 (by decide) ?_
    exact gr_X (gr_ireturn dX8_end_40 rfl (Nat.le_of_ble_eq_true rfl) (Nat.le_of_ble_eq_true rfl) ⟨rfl, rfl, Or.inl ⟨rfl, q, rfl, hq⟩⟩)
  · refine gr_iload_n dX8_end_4 rfl (gr_iconst (v := nI 1) dX8_end_5 rfl (gr_icmpeq 19 dX8_end_6 (by decide) (fun c_6 => ?_) (fun c_6 => ?_)))
    · subst c_6
      refine gr_iload_n dX8_end_19 rfl ?_
      refine gr_ifne 33 dX8_end_20 (by decide) (fun _ => ?_) (fun z => absurd z (by decide))
      refine gr_aload_n dX8_end_33 rfl ?_
      refine gr_getf dX8_end_34 cls_X8 0 (by decide) fl_X8_23 (co_ra hZ hI) rfl ?_
      refine gr_callV dX8_end_37 (c_greatestShift l E (d + 6) _ _ o F S (co_eq hZ hI)) ysX1_greatestShift ⟨ml_X8_103, im_X1_greatestShift, sl_X1_greatestShift⟩ (eq_0 (co_eq hZ hI)) (show vwCl[3]? = some (RX1, TX1, _) from rfl) rfl rfl (Nat.le_of_ble_eq_true rfl) ⟨(Nat.le_refl _), (Nat.le_refl _)⟩ ⟨(Nat.le_of_ble_eq_true rfl), (Nat.le_of_ble_eq_true rfl)⟩ (fun r0 h1 hp9 => ?_)
      obtain ⟨rfl, q, rfl, hq⟩ := hp9
      exact gr_X (gr_ireturn dX8_end_40 rfl (Nat.le_of_ble_eq_true rfl) (Nat.le_of_ble_eq_true rfl) ⟨rfl, rfl, Or.inr ⟨rfl, q, rfl, hq⟩⟩)
    · have hz : ¬ ltR w 2 = true := fun z => by
        obtain ⟨j, h2, -, rfl⟩ := ltR_of z (by omega)
        rcases j with _ | _ | j
        · exact c_1 rfl
        · exact c_6 rfl
        · omega
      exact gr_throw hl0 rfl rfl (thr_I (is := 173) (text := "an end is 0 or 1") (by decide)) dX8_end_9 dX8_end_12 dX8_end_13 dX8_end_15 dX8_end_18 ⟨by show 7 ≤ d + 8; omega, by show 448 ≤ 64 * (d + 8); omega⟩ (Nat.le_of_ble_eq_true rfl) ⟨(Nat.le_of_ble_eq_true rfl), (Nat.le_of_ble_eq_true rfl)⟩ ⟨(Nat.le_of_ble_eq_true rfl), (Nat.le_of_ble_eq_true rfl)⟩ ⟨rfl, by unfold cdP; rw [if_neg hz], rfl⟩

set_option maxHeartbeats 4000000 in
set_option maxRecDepth 100000 in
theorem c_rest (l : Launch) (hl0 : l.stackTraces = false) (E : ga_E) (d : Nat) (h : ga_H) (Z : Nat → Nat) (hZ : ga_inj Z 65) (o : Nat) (F : Nat → Nat → zp) (S : Nat → zp) (tr : Nat → zp) (zk : Bool) (kn : Bool) (mt : Bool) (bc : Nat) (n0 : Nat) (rv : Nat → zp) (pa : Nat → zp) (ba : Nat → zp) (bs : Nat → Nat) (bv : Nat → Nat → zp) (sn : Nat) (kv : Nat) (y : Nat → zp) (zn : Nat) (zf : Nat → zp) (cn : Nat) (cf : Nat → zp) (c : Nat → va_E) (hI : coI E Z c o F S tr zk kn mt bc n0 rv pa ba bs bv sn kv y zn zf cn cf) (p : Int32) : ga_OkX l E (d + 8) mX8_rest [.ref (Z 0), .int p] (ga_ov h Z c 65) 1 6 (fun r0 h' => cdP 19 p = 0 ∧ ∃ (c' : Nat → va_E) (C : Nat → Nat → zp), coI E Z c' o F S tr zk kn mt bc n0 rv pa ba bs bv sn kv y zn zf cn cf ∧ (∀ i, i < 19 → ∀ j, j < 14 → C i j = fillK F S 1 5 i j) ∧ h' = ga_ov h Z c' 65 ∧ r0 = some (.int (nI (-(C (ix p) 13) + zs 13 (fun k => C (ix p) k * tr k)).val))) (fun Y h' => Y = nmI ∧ cdP 19 p = 1 ∧ h' = ga_ov h Z c 65) := by
  refine ga_OkX.of 0 _ (by decide) rfl (Nat.le_of_ble_eq_true rfl) rfl ?_
  refine gr_iload_n dX8_rest_0 rfl ?_
  refine gr_iflt 10 dX8_rest_1 (by decide) (fun c_1 => ?_) (fun c_1 => ?_)
  · exact gr_throw hl0 rfl rfl (thr_I (is := 178) (text := "powers are 0 .. 18") (by decide)) dX8_rest_10 dX8_rest_13 dX8_rest_14 dX8_rest_16 dX8_rest_19 ⟨by show 7 ≤ d + 8; omega, by show 448 ≤ 64 * (d + 8); omega⟩ (Nat.le_of_ble_eq_true rfl) ⟨(Nat.le_of_ble_eq_true rfl), (Nat.le_of_ble_eq_true rfl)⟩ ⟨(Nat.le_of_ble_eq_true rfl), (Nat.le_of_ble_eq_true rfl)⟩ ⟨rfl, by unfold cdP; rw [ltR_neg c_1]; rfl, rfl⟩
  · obtain ⟨j, hj, rfl⟩ := nI_of c_1
    refine gr_iload_n dX8_rest_4 rfl ?_
    refine gr_bipush (v := nI 19) dX8_rest_5 (by decide) ?_
    refine gr_icmpltN 20 dX8_rest_7 (by decide) hj (by omega) (fun c_7 => ?_) (fun c_7 => ?_)
    · refine gr_aload_n dX8_rest_20 rfl ?_
      refine gr_getf dX8_rest_21 cls_X8 1 (by decide) fl_X8_30 (co_ra hZ hI) rfl ?_
      refine gr_aload_n dX8_rest_24 rfl ?_
      refine gr_getf dX8_rest_25 cls_X8 0 (by decide) fl_X8_23 (co_ra hZ hI) rfl ?_
      refine gr_iconst (v := nI (1 : zp).val) dX8_rest_28 rfl ?_
      obtain ⟨C0, u0, pv0, t0, ht0, hls0⟩ := co_ls (h := h) hZ hI
      refine gr_h hls0 ?_
      refine gr_callV dX8_rest_29 (c_fill l E (d + 5) _ _ (inj_sub hZ (by omega)) u0 pv0 _ o F S (co_eq hZ hI) (fun k hk m hm => Zne hZ (by omega) (by omega) (by omega)) 1 C0 t0 ht0) ysX2_fill ⟨ml_X8_180, im_X2_fill, sl_X2_fill⟩ (ls_0 (inj_sub hZ (by omega))) (show vwCl[4]? = some (RX2, TX2, _) from rfl) rfl rfl (Nat.le_of_ble_eq_true rfl) ⟨(Nat.le_refl _), (Nat.le_refl _)⟩ ⟨(Nat.le_of_ble_eq_true rfl), (Nat.le_of_ble_eq_true rfl)⟩ (fun r0 h1 hp9 => ?_)
      obtain ⟨C1, t1, ht1, hC1, rfl, rfl⟩ := hp9
      refine gr_h (co_lsb hZ) ?_
      have hI1 := cu_ls (C := C1) (u := u0) (pv := pv0) hI ht1
      refine gr_aload_n dX8_rest_32 rfl ?_
      refine gr_getf dX8_rest_33 cls_X8 1 (by decide) fl_X8_30 (co_ra hZ hI1) rfl ?_
      refine gr_aload_n dX8_rest_36 rfl ?_
      refine gr_getf dX8_rest_37 cls_X8 6 (by decide) fl_X8_55 (co_ra hZ hI1) rfl ?_
      refine gr_iload_n dX8_rest_40 rfl ?_
      refine gr_h (co_lss hZ (fun k hk => cs_in hk)) ?_
      refine gr_callV dX8_rest_41 (c_leftOver l E (d + 6) _ _ (inj_sub hZ (by omega)) C1 u0 pv0 t1 (Z 1) tr ?_ j c_7) ysX2_leftOver ⟨ml_X8_184, im_X2_leftOver, sl_X2_leftOver⟩ (ls_0 (inj_sub hZ (by omega))) (show vwCl[4]? = some (RX2, TX2, _) from rfl) rfl rfl (Nat.le_of_ble_eq_true rfl) ⟨(Nat.le_refl _), (Nat.le_refl _)⟩ ⟨(Nat.le_of_ble_eq_true rfl), (Nat.le_of_ble_eq_true rfl)⟩ (fun r0 h1 hp9 => ?_)
      · rw [← co_lss hZ (fun k hk => cs_in hk)]
        exact co_tr hZ hI1
      · obtain ⟨rfl, rfl⟩ := hp9
        refine gr_h (co_lss hZ (fun k hk => cs_in hk)).symm ?_
        exact gr_X (gr_ireturn dX8_rest_44 rfl (Nat.le_of_ble_eq_true rfl) (Nat.le_of_ble_eq_true rfl) ⟨by unfold cdP; rw [if_pos (ltR_lt hj c_7)], _, C1, hI1, hC1, rfl, by rw [ix_nI hj]⟩)
    · exact gr_throw hl0 rfl rfl (thr_I (is := 178) (text := "powers are 0 .. 18") (by decide)) dX8_rest_10 dX8_rest_13 dX8_rest_14 dX8_rest_16 dX8_rest_19 ⟨by show 7 ≤ d + 8; omega, by show 448 ≤ 64 * (d + 8); omega⟩ (Nat.le_of_ble_eq_true rfl) ⟨(Nat.le_of_ble_eq_true rfl), (Nat.le_of_ble_eq_true rfl)⟩ ⟨(Nat.le_of_ble_eq_true rfl), (Nat.le_of_ble_eq_true rfl)⟩ ⟨rfl, by unfold cdP; rw [ltR_ge hj (by omega)]; rfl, rfl⟩
