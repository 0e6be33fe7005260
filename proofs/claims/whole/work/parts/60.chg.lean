/-! The component: answer, times, factor, right, run, value, singular, end, rest -/
set_option maxHeartbeats 4000000 in
set_option maxRecDepth 100000 in
theorem c_answer (l : Launch) (hl0 : l.stackTraces = false) (E : ga_E) (d : Nat) (h : ga_H) (Z : Nat → Nat) (hZ : ga_inj Z 65) (o : Nat) (F : Nat → Nat → zp) (S : Nat → zp) (tr : Nat → zp) (zk : Bool) (kn : Bool) (mt : Bool) (bc : Nat) (n0 : Nat) (rv : Nat → zp) (pa : Nat → zp) (ba : Nat → zp) (bs : Nat → Nat) (bv : Nat → Nat → zp) (sn : Nat) (kv : Nat) (y : Nat → zp) (zn : Nat) (zf : Nat → zp) (cn : Nat) (cf : Nat → zp) (c : Nat → va_E) (hI : coI E Z c o F S tr zk kn mt bc n0 rv pa ba bs bv sn kv y zn zf cn cf) (hn13 : n0 ≤ 13) (k p : Int32) : ga_OkX l E (d + 8) mX8_answer [.ref (Z 0), .int k, .int p] (ga_ov h Z c 65) 3 18 (fun r0 h' => cdA kn n0 mt k p = 0 ∧ h' = ga_ov h Z c 65 ∧ r0 = some (.int (if k < 0 then nI (pa (ix p)).val else nI (rv (13 * ix k + ix p)).val))) (fun Y h' => h' = ga_ov h Z c 65 ∧ (Y = nmS ∧ cdA kn n0 mt k p = 1 ∨ Y = nmI ∧ cdA kn n0 mt k p = 2)) := by
  refine ga_OkX.of 0 _ (by decide) rfl (Nat.le_of_ble_eq_true rfl) rfl ?_
  refine gr_aload_n dX8_answer_0 rfl ?_
  refine gr_callVX dX8_answer_1 (c_reqAns l hl0 E d h Z hZ o F S tr zk kn mt bc n0 rv pa ba bs bv sn kv y zn zf cn cf c hI) ysX8_requireAnswers ⟨ml_X8_115, im_X8_requireAnswers, sl_X8_requireAnswers⟩ (co_ra hZ hI) (show vwCl[8]? = some (RX8, TX8, _) from rfl) rfl rfl (Nat.le_of_ble_eq_true rfl) ⟨(Nat.le_refl _), (Nat.le_refl _)⟩ ⟨(Nat.le_of_ble_eq_true rfl), (Nat.le_of_ble_eq_true rfl)⟩ (fun Y h' hp => gt_out rfl (⟨hp.2.2, Or.inl ⟨hp.1, by rw [hp.2.1]; rfl⟩⟩) (Nat.le_of_ble_eq_true rfl) (Nat.le_of_ble_eq_true rfl)) (fun r0 h1 hp9 => ?_)
  obtain ⟨hkn, e1, rfl⟩ := hp9
  subst h1
  refine gr_iload_n dX8_answer_4 rfl ?_
  refine gr_callSX dX8_answer_5 (c_reqPow l hl0 E d _ p) ysX8_requireAnswerPower ⟨ml_X8_127, sm_X8_requireAnswerPower⟩ rfl rfl (Nat.le_of_ble_eq_true rfl) ⟨(Nat.le_refl _), (Nat.le_refl _)⟩ ⟨(Nat.le_of_ble_eq_true rfl), (Nat.le_of_ble_eq_true rfl)⟩ (fun Y h' hp => gt_out rfl (⟨hp.2.2, Or.inr ⟨hp.1, by unfold cdA; rw [if_pos hkn, if_neg (fun z => absurd (z.1.symm.trans hp.2.1) (by decide))]⟩⟩) (Nat.le_of_ble_eq_true rfl) (Nat.le_of_ble_eq_true rfl)) (fun r0 h1 hp9 => ?_)
  obtain ⟨hlp, e1, rfl⟩ := hp9
  subst h1
  obtain ⟨j, hj13, hj, rfl⟩ := ltR_of hlp (by omega)
  refine gr_iload_n dX8_answer_8 rfl ?_
  refine gr_iconst (v := -1) dX8_answer_9 (by decide) ?_
  refine gr_icmpne 33 dX8_answer_10 (by decide) (fun c_10 => ?_) (fun c_10 => ?_)
  · refine gr_iload_n dX8_answer_33 rfl ?_
    refine gr_iflt 51 dX8_answer_34 (by decide) (fun c_34 => ?_) (fun c_34 => ?_)
    · exact gr_throw hl0 rfl rfl (thr_I (is := 136) (text := "no such answer") (by decide)) dX8_answer_51 dX8_answer_54 dX8_answer_55 dX8_answer_57 dX8_answer_60 ⟨by show 7 ≤ d + 8; omega, by show 448 ≤ 64 * (d + 8); omega⟩ (Nat.le_of_ble_eq_true rfl) ⟨(Nat.le_of_ble_eq_true rfl), (Nat.le_of_ble_eq_true rfl)⟩ ⟨(Nat.le_of_ble_eq_true rfl), (Nat.le_of_ble_eq_true rfl)⟩ ⟨rfl, Or.inr ⟨rfl, by unfold cdA; rw [if_pos hkn, if_neg (fun z => z.2.elim (fun w => (fun w : k = -1 ∧ mt = true => absurd w.1 c_10) w) (fun w => absurd w (by rw [ltR_neg c_34]; decide)))]⟩⟩
    · obtain ⟨i, hi, rfl⟩ := nI_of c_34
      refine gr_iload_n dX8_answer_37 rfl ?_
      refine gr_aload_n dX8_answer_38 rfl ?_
      refine gr_getf dX8_answer_39 cls_X8 2 (by decide) fl_X8_37 (co_ra hZ hI) rfl ?_
      refine gr_getf dX8_answer_42 cls_X0 3 (by decide) fl_X8_118 (co_an hZ hI) rfl ?_
      refine gr_getf dX8_answer_45 cls_X6 1 (by decide) fl_X8_122 (co_r0 hZ hI) rfl ?_
      refine gr_icmpltN 61 dX8_answer_48 (by decide) hi (by omega) (fun c_48 => ?_) (fun c_48 => ?_)
      · refine gr_aload_n dX8_answer_61 rfl ?_
        refine gr_getf dX8_answer_62 cls_X8 2 (by decide) fl_X8_37 (co_ra hZ hI) rfl ?_
        refine gr_getf dX8_answer_65 cls_X0 3 (by decide) fl_X8_118 (co_an hZ hI) rfl ?_
        refine gr_iload_n dX8_answer_68 rfl ?_
        refine gr_iload_n dX8_answer_69 rfl ?_
        refine gr_callV dX8_answer_70 (c_numberAt l E (d + 7) _ (Z 43) (Z 44) _ rv (co_r0 hZ hI) (co_rv hZ hI) i j (by omega) (by omega)) ysX6_numberAt ⟨ml_X8_138, im_X6_numberAt, sl_X6_numberAt⟩ (co_r0 hZ hI) (show vwCl[6]? = some (RX6, TX6, _) from rfl) rfl rfl (Nat.le_of_ble_eq_true rfl) ⟨(Nat.le_refl _), (Nat.le_refl _)⟩ ⟨(Nat.le_of_ble_eq_true rfl), (Nat.le_of_ble_eq_true rfl)⟩ (fun r0 h1 hp9 => ?_)
        obtain ⟨e1, rfl⟩ := hp9
        subst h1
        exact gr_X (gr_ireturn dX8_answer_73 rfl (Nat.le_of_ble_eq_true rfl) (Nat.le_of_ble_eq_true rfl) ⟨by unfold cdA; rw [if_pos hkn, if_pos ⟨hlp, Or.inr (ltR_lt hi c_48)⟩], rfl, by rw [if_neg c_34, ix_nI hi, ix_nI hj, Nat.mul_comm]⟩)
      · exact gr_throw hl0 rfl rfl (thr_I (is := 136) (text := "no such answer") (by decide)) dX8_answer_51 dX8_answer_54 dX8_answer_55 dX8_answer_57 dX8_answer_60 ⟨by show 7 ≤ d + 8; omega, by show 448 ≤ 64 * (d + 8); omega⟩ (Nat.le_of_ble_eq_true rfl) ⟨(Nat.le_of_ble_eq_true rfl), (Nat.le_of_ble_eq_true rfl)⟩ ⟨(Nat.le_of_ble_eq_true rfl), (Nat.le_of_ble_eq_true rfl)⟩ ⟨rfl, Or.inr ⟨rfl, by unfold cdA; rw [if_pos hkn, if_neg (fun z => z.2.elim (fun w => (fun w : nI i = -1 ∧ mt = true => absurd (w.1 ▸ c_34 : ¬ (-1 : Int32) < 0) (by decide)) w) (fun w => absurd w (by rw [ltR_ge hi c_48]; decide)))]⟩⟩
  · refine gr_aload_n dX8_answer_13 rfl ?_
    refine gr_getf dX8_answer_14 cls_X8 2 (by decide) fl_X8_37 (co_ra hZ hI) rfl ?_
    refine gr_getf dX8_answer_17 cls_X0 4 (by decide) fl_X8_130 (co_an hZ hI) rfl ?_
    refine gr_ifeq 33 dX8_answer_20 (by decide) (fun c_20 => ?_) (fun c_20 => ?_)
    · refine gr_iload_n dX8_answer_33 rfl ?_
      refine gr_iflt 51 dX8_answer_34 (by decide) (fun c_34 => ?_) (fun c_34 => ?_)
      · exact gr_throw hl0 rfl rfl (thr_I (is := 136) (text := "no such answer") (by decide)) dX8_answer_51 dX8_answer_54 dX8_answer_55 dX8_answer_57 dX8_answer_60 ⟨by show 7 ≤ d + 8; omega, by show 448 ≤ 64 * (d + 8); omega⟩ (Nat.le_of_ble_eq_true rfl) ⟨(Nat.le_of_ble_eq_true rfl), (Nat.le_of_ble_eq_true rfl)⟩ ⟨(Nat.le_of_ble_eq_true rfl), (Nat.le_of_ble_eq_true rfl)⟩ ⟨rfl, Or.inr ⟨rfl, by unfold cdA; rw [if_pos hkn, if_neg (fun z => z.2.elim (fun w => (fun w : k = -1 ∧ mt = true => absurd c_20 (by rw [w.2]; decide)) w) (fun w => absurd w (by rw [ltR_neg c_34]; decide)))]⟩⟩
      · obtain ⟨i, hi, rfl⟩ := nI_of c_34
        refine gr_iload_n dX8_answer_37 rfl ?_
        refine gr_aload_n dX8_answer_38 rfl ?_
        refine gr_getf dX8_answer_39 cls_X8 2 (by decide) fl_X8_37 (co_ra hZ hI) rfl ?_
        refine gr_getf dX8_answer_42 cls_X0 3 (by decide) fl_X8_118 (co_an hZ hI) rfl ?_
        refine gr_getf dX8_answer_45 cls_X6 1 (by decide) fl_X8_122 (co_r0 hZ hI) rfl ?_
        refine gr_icmpltN 61 dX8_answer_48 (by decide) hi (by omega) (fun c_48 => ?_) (fun c_48 => ?_)
        · refine gr_aload_n dX8_answer_61 rfl ?_
          refine gr_getf dX8_answer_62 cls_X8 2 (by decide) fl_X8_37 (co_ra hZ hI) rfl ?_
          refine gr_getf dX8_answer_65 cls_X0 3 (by decide) fl_X8_118 (co_an hZ hI) rfl ?_
          refine gr_iload_n dX8_answer_68 rfl ?_
          refine gr_iload_n dX8_answer_69 rfl ?_
          refine gr_callV dX8_answer_70 (c_numberAt l E (d + 7) _ (Z 43) (Z 44) _ rv (co_r0 hZ hI) (co_rv hZ hI) i j (by omega) (by omega)) ysX6_numberAt ⟨ml_X8_138, im_X6_numberAt, sl_X6_numberAt⟩ (co_r0 hZ hI) (show vwCl[6]? = some (RX6, TX6, _) from rfl) rfl rfl (Nat.le_of_ble_eq_true rfl) ⟨(Nat.le_refl _), (Nat.le_refl _)⟩ ⟨(Nat.le_of_ble_eq_true rfl), (Nat.le_of_ble_eq_true rfl)⟩ (fun r0 h1 hp9 => ?_)
          obtain ⟨e1, rfl⟩ := hp9
          subst h1
          exact gr_X (gr_ireturn dX8_answer_73 rfl (Nat.le_of_ble_eq_true rfl) (Nat.le_of_ble_eq_true rfl) ⟨by unfold cdA; rw [if_pos hkn, if_pos ⟨hlp, Or.inr (ltR_lt hi c_48)⟩], rfl, by rw [if_neg c_34, ix_nI hi, ix_nI hj, Nat.mul_comm]⟩)
        · exact gr_throw hl0 rfl rfl (thr_I (is := 136) (text := "no such answer") (by decide)) dX8_answer_51 dX8_answer_54 dX8_answer_55 dX8_answer_57 dX8_answer_60 ⟨by show 7 ≤ d + 8; omega, by show 448 ≤ 64 * (d + 8); omega⟩ (Nat.le_of_ble_eq_true rfl) ⟨(Nat.le_of_ble_eq_true rfl), (Nat.le_of_ble_eq_true rfl)⟩ ⟨(Nat.le_of_ble_eq_true rfl), (Nat.le_of_ble_eq_true rfl)⟩ ⟨rfl, Or.inr ⟨rfl, by unfold cdA; rw [if_pos hkn, if_neg (fun z => z.2.elim (fun w => (fun w : nI i = -1 ∧ mt = true => absurd (w.1 ▸ c_34 : ¬ (-1 : Int32) < 0) (by decide)) w) (fun w => absurd w (by rw [ltR_ge hi c_48]; decide)))]⟩⟩
    · refine gr_aload_n dX8_answer_23 rfl ?_
      refine gr_getf dX8_answer_24 cls_X8 2 (by decide) fl_X8_37 (co_ra hZ hI) rfl ?_
      refine gr_getf dX8_answer_27 cls_X0 5 (by decide) fl_X8_133 (co_an hZ hI) rfl ?_
      refine gr_iload_n dX8_answer_30 rfl ?_
      refine gr_ialoadF dX8_answer_31 (co_pa hZ hI) (by omega) (by decide) ?_
      have hmt : mt = true := by
        cases mt with
        | true => rfl
        | false => exact absurd rfl c_20
      have hk1 : k = -1 := Classical.not_not.mp (fun z => z c_10)
      exact gr_X (gr_ireturn dX8_answer_32 rfl (Nat.le_of_ble_eq_true rfl) (Nat.le_of_ble_eq_true rfl) ⟨by unfold cdA; rw [if_pos hkn, if_pos ⟨hlp, Or.inl ⟨hk1, hmt⟩⟩], rfl, by rw [if_pos (by rw [hk1]; decide), ix_nI hj]⟩)

set_option maxHeartbeats 4000000 in
set_option maxRecDepth 100000 in
theorem c_times (l : Launch) (hl0 : l.stackTraces = false) (E : ga_E) (d : Nat) (h : ga_H) (Z : Nat → Nat) (hZ : ga_inj Z 65) (o : Nat) (F : Nat → Nat → zp) (S : Nat → zp) (tr : Nat → zp) (zk : Bool) (kn : Bool) (mt : Bool) (bc : Nat) (n0 : Nat) (rv : Nat → zp) (pa : Nat → zp) (ba : Nat → zp) (bs : Nat → Nat) (bv : Nat → Nat → zp) (sn : Nat) (kv : Nat) (y : Nat → zp) (zn : Nat) (zf : Nat → zp) (cn : Nat) (cf : Nat → zp) (c : Nat → va_E) (hI : coI E Z c o F S tr zk kn mt bc n0 rv pa ba bs bv sn kv y zn zf cn cf) (hbc : bc ≤ 4) (hbs : ∀ a, a < bc → bs a ≤ 13) (k i p : Int32) : ga_OkX l E (d + 8) mX8_times [.ref (Z 0), .int k, .int i, .int p] (ga_ov h Z c 65) 3 18 (fun r0 h' => cdT kn bc (fun a => zo (bs a)) k i p = 0 ∧ h' = ga_ov h Z c 65 ∧ r0 = some (.int (nI (bv (ix k) (13 * ix i + ix p)).val))) (fun Y h' => h' = ga_ov h Z c 65 ∧ (Y = nmS ∧ cdT kn bc (fun a => zo (bs a)) k i p = 1 ∨ Y = nmI ∧ cdT kn bc (fun a => zo (bs a)) k i p = 2)) := by
  refine ga_OkX.of 0 _ (by decide) rfl (Nat.le_of_ble_eq_true rfl) rfl ?_
  refine gr_aload_n dX8_times_0 rfl ?_
  refine gr_callVX dX8_times_1 (c_reqAns l hl0 E d h Z hZ o F S tr zk kn mt bc n0 rv pa ba bs bv sn kv y zn zf cn cf c hI) ysX8_requireAnswers ⟨ml_X8_115, im_X8_requireAnswers, sl_X8_requireAnswers⟩ (co_ra hZ hI) (show vwCl[8]? = some (RX8, TX8, _) from rfl) rfl rfl (Nat.le_of_ble_eq_true rfl) ⟨(Nat.le_refl _), (Nat.le_refl _)⟩ ⟨(Nat.le_of_ble_eq_true rfl), (Nat.le_of_ble_eq_true rfl)⟩ (fun Y h' hp => gt_out rfl (⟨hp.2.2, Or.inl ⟨hp.1, by rw [hp.2.1]; rfl⟩⟩) (Nat.le_of_ble_eq_true rfl) (Nat.le_of_ble_eq_true rfl)) (fun r0 h1 hp9 => ?_)
  obtain ⟨hkn, e1, rfl⟩ := hp9
  subst h1
  refine gr_iload_n dX8_times_4 rfl ?_
  refine gr_callSX dX8_times_5 (c_reqPow l hl0 E d _ p) ysX8_requireAnswerPower ⟨ml_X8_127, sm_X8_requireAnswerPower⟩ rfl rfl (Nat.le_of_ble_eq_true rfl) ⟨(Nat.le_refl _), (Nat.le_refl _)⟩ ⟨(Nat.le_of_ble_eq_true rfl), (Nat.le_of_ble_eq_true rfl)⟩ (fun Y h' hp => gt_out rfl (⟨hp.2.2, Or.inr ⟨hp.1, by unfold cdT; rw [if_pos hkn, if_neg (fun z => absurd (z.2.2.symm.trans hp.2.1) (by decide))]⟩⟩) (Nat.le_of_ble_eq_true rfl) (Nat.le_of_ble_eq_true rfl)) (fun r0 h1 hp9 => ?_)
  obtain ⟨hlp, e1, rfl⟩ := hp9
  subst h1
  obtain ⟨j, hj13, hj, rfl⟩ := ltR_of hlp (by omega)
  refine gr_aload_n dX8_times_8 rfl ?_
  refine gr_getf dX8_times_9 cls_X8 2 (by decide) fl_X8_37 (co_ra hZ hI) rfl ?_
  refine gr_iload_n dX8_times_12 rfl ?_
  refine gr_callV dX8_times_13 (c_hasBase l E (d + 7) _ Z kn mt bc hbc (Z 34) (co_an hZ hI) k) ysX0_hasBase ⟨ml_X8_144, im_X0_hasBase, sl_X0_hasBase⟩ (co_an hZ hI) (show vwCl[2]? = some (RX0, TX0, _) from rfl) rfl rfl (Nat.le_of_ble_eq_true rfl) ⟨(Nat.le_refl _), (Nat.le_refl _)⟩ ⟨(Nat.le_of_ble_eq_true rfl), (Nat.le_of_ble_eq_true rfl)⟩ (fun r0 h1 hp9 => ?_)
  obtain ⟨e1, rfl⟩ := hp9
  subst h1
  by_cases hlk : ltR k bc = true
  · obtain ⟨a, ha, ha2, rfl⟩ := ltR_of hlk (by omega)
    have ha4 : a < 4 := by omega
    have hz : (zo (bs (ix (nI a)))).val = bs a := by rw [ix_nI ha2]; exact zo_small (by have := hbs a ha; omega)
    refine gr_top (congrArg Value.int (show bI (ltR (nI a) bc) = nI 1 by rw [hlk]; rfl)) (gr_ifeqN 39 dX8_times_16 (by decide) (by omega) (fun z => absurd z (by decide)) (fun _ => ?_))
    refine gr_iload_n dX8_times_19 rfl ?_
    refine gr_iflt 39 dX8_times_20 (by decide) (fun c_20 => ?_) (fun c_20 => ?_)
    · exact gr_throw hl0 rfl rfl (thr_I (is := 136) (text := "no such answer") (by decide)) dX8_times_39 dX8_times_42 dX8_times_43 dX8_times_45 dX8_times_48 ⟨by show 7 ≤ d + 8; omega, by show 448 ≤ 64 * (d + 8); omega⟩ (Nat.le_of_ble_eq_true rfl) ⟨(Nat.le_of_ble_eq_true rfl), (Nat.le_of_ble_eq_true rfl)⟩ ⟨(Nat.le_of_ble_eq_true rfl), (Nat.le_of_ble_eq_true rfl)⟩ ⟨rfl, Or.inr ⟨rfl, by unfold cdT; rw [if_pos hkn, if_neg (fun z => absurd z.2.1 (by rw [ltR_neg c_20]; decide))]⟩⟩
    · obtain ⟨i1, hi1, rfl⟩ := nI_of c_20
      refine gr_iload_n dX8_times_23 rfl ?_
      refine gr_aload_n dX8_times_24 rfl ?_
      refine gr_getf dX8_times_25 cls_X8 2 (by decide) fl_X8_37 (co_ra hZ hI) rfl ?_
      refine gr_getf dX8_times_28 cls_X0 8 (by decide) fl_X8_151 (co_an hZ hI) rfl ?_
      refine gr_iload_n dX8_times_31 rfl ?_
      refine gr_aaloadR dX8_times_32 (co_br hZ hI) (by omega) (by decide) (rwR_at (by omega)) ?_
      refine gr_getf dX8_times_33 cls_X6 1 (by decide) fl_X8_122 (co_ro hZ hI ha4) rfl ?_
      refine gr_icmpltN 49 dX8_times_36 (by decide) hi1 (by have := hbs a ha; omega) (fun c_36 => ?_) (fun c_36 => ?_)
      · refine gr_aload_n dX8_times_49 rfl ?_
        refine gr_getf dX8_times_50 cls_X8 2 (by decide) fl_X8_37 (co_ra hZ hI) rfl ?_
        refine gr_getf dX8_times_53 cls_X0 8 (by decide) fl_X8_151 (co_an hZ hI) rfl ?_
        refine gr_iload_n dX8_times_56 rfl ?_
        refine gr_aaloadR dX8_times_57 (co_br hZ hI) (by omega) (by decide) (rwR_at (by omega)) ?_
        refine gr_iload_n dX8_times_58 rfl ?_
        refine gr_iload_n dX8_times_59 rfl ?_
        refine gr_callV dX8_times_60 (c_numberAt l E (d + 7) _ (Z (48 + 2 * a)) (Z (49 + 2 * a)) _ (bv a) (co_ro hZ hI ha4) (co_rn hZ hI ha4) i1 j (by have := hbs a ha; omega) (by omega)) ysX6_numberAt ⟨ml_X8_138, im_X6_numberAt, sl_X6_numberAt⟩ (co_ro hZ hI ha4) (show vwCl[6]? = some (RX6, TX6, _) from rfl) rfl rfl (Nat.le_of_ble_eq_true rfl) ⟨(Nat.le_refl _), (Nat.le_refl _)⟩ ⟨(Nat.le_of_ble_eq_true rfl), (Nat.le_of_ble_eq_true rfl)⟩ (fun r0 h1 hp9 => ?_)
        obtain ⟨e1, rfl⟩ := hp9
        subst h1
        exact gr_X (gr_ireturn dX8_times_63 rfl (Nat.le_of_ble_eq_true rfl) (Nat.le_of_ble_eq_true rfl) ⟨by unfold cdT; rw [if_pos hkn, if_pos ⟨ltR_lt ha2 ha, by rw [hz]; exact ltR_lt hi1 c_36, hlp⟩], rfl, by rw [ix_nI ha2, ix_nI hi1, ix_nI hj, Nat.mul_comm]⟩)
      · exact gr_throw hl0 rfl rfl (thr_I (is := 136) (text := "no such answer") (by decide)) dX8_times_39 dX8_times_42 dX8_times_43 dX8_times_45 dX8_times_48 ⟨by show 7 ≤ d + 8; omega, by show 448 ≤ 64 * (d + 8); omega⟩ (Nat.le_of_ble_eq_true rfl) ⟨(Nat.le_of_ble_eq_true rfl), (Nat.le_of_ble_eq_true rfl)⟩ ⟨(Nat.le_of_ble_eq_true rfl), (Nat.le_of_ble_eq_true rfl)⟩ ⟨rfl, Or.inr ⟨rfl, by unfold cdT; rw [if_pos hkn, if_neg (fun z => absurd z.2.1 (by rw [hz, ltR_ge hi1 c_36]; decide))]⟩⟩
  · have hlk2 : ltR k bc = false := by cases e : ltR k bc with
    | true => exact absurd e hlk
    | false => rfl
    refine gr_top (congrArg Value.int (show bI (ltR k bc) = nI 0 by rw [hlk2]; rfl)) (gr_ifeqN 39 dX8_times_16 (by decide) (by omega) (fun _ => ?_) (fun z => absurd rfl z))
    exact gr_throw hl0 rfl rfl (thr_I (is := 136) (text := "no such answer") (by decide)) dX8_times_39 dX8_times_42 dX8_times_43 dX8_times_45 dX8_times_48 ⟨by show 7 ≤ d + 8; omega, by show 448 ≤ 64 * (d + 8); omega⟩ (Nat.le_of_ble_eq_true rfl) ⟨(Nat.le_of_ble_eq_true rfl), (Nat.le_of_ble_eq_true rfl)⟩ ⟨(Nat.le_of_ble_eq_true rfl), (Nat.le_of_ble_eq_true rfl)⟩ ⟨rfl, Or.inr ⟨rfl, by unfold cdT; rw [if_pos hkn, if_neg (fun z => absurd z.1 (by rw [hlk2]; decide))]⟩⟩

set_option maxHeartbeats 4000000 in
set_option maxRecDepth 100000 in
theorem c_factor (l : Launch) (hl0 : l.stackTraces = false) (E : ga_E) (d : Nat) (h : ga_H) (Z : Nat → Nat) (hZ : ga_inj Z 65) (o : Nat) (F : Nat → Nat → zp) (S : Nat → zp) (tr : Nat → zp) (zk : Bool) (kn : Bool) (mt : Bool) (bc : Nat) (n0 : Nat) (rv : Nat → zp) (pa : Nat → zp) (ba : Nat → zp) (bs : Nat → Nat) (bv : Nat → Nat → zp) (sn : Nat) (kv : Nat) (y : Nat → zp) (zn : Nat) (zf : Nat → zp) (cn : Nat) (cf : Nat → zp) (c : Nat → va_E) (hI : coI E Z c o F S tr zk kn mt bc n0 rv pa ba bs bv sn kv y zn zf cn cf) (ho4 : o ≤ 4) (sh p : Int32) (x y1 : Int64) : ga_OkX l E (d + 8) mX8_factor [.ref (Z 0), .int sh, .int p, .long x, .long y1] (ga_ov h Z c 65) 1 6 (fun r0 h' => cdF o sh p (zL y1) = 0 ∧ (F (ix sh) (ix p) = (zL x * zinv (zL y1)) ∧ h' = ga_ov h Z c 65 ∧ r0 = some (.int (nI 0)) ∨ F (ix sh) (ix p) ≠ (zL x * zinv (zL y1)) ∧ ∃ c', coI E Z c' o (va_up F (ix sh) (va_up (F (ix sh)) (ix p) (zL x * zinv (zL y1)))) S tr false false mt bc n0 rv pa ba bs bv sn sn y zn zf cn cf ∧ h' = ga_ov h Z c' 65 ∧ r0 = some (.int (nI 1)))) (fun Y h' => h' = ga_ov h Z c 65 ∧ (Y = nmB ∧ cdF o sh p (zL y1) = 1 ∨ Y = nmI ∧ cdF o sh p (zL y1) = 2 ∨ Y = nmR ∧ cdF o sh p (zL y1) = 3)) := by
  refine ga_OkX.of 0 _ (by decide) rfl (Nat.le_of_ble_eq_true rfl) rfl ?_
  refine gr_iload_n dX8_factor_0 rfl ?_
  refine gr_iflt 15 dX8_factor_1 (by decide) (fun c_1 => ?_) (fun c_1 => ?_)
  · exact gr_throw hl0 rfl rfl (thr_B) dX8_factor_15 dX8_factor_18 dX8_factor_19 dX8_factor_21 dX8_factor_24 ⟨by show 7 ≤ d + 8; omega, by show 448 ≤ 64 * (d + 8); omega⟩ (Nat.le_of_ble_eq_true rfl) ⟨(Nat.le_of_ble_eq_true rfl), (Nat.le_of_ble_eq_true rfl)⟩ ⟨(Nat.le_of_ble_eq_true rfl), (Nat.le_of_ble_eq_true rfl)⟩ ⟨rfl, Or.inl ⟨rfl, by unfold cdF; rw [ltR_neg c_1]; rfl⟩⟩
  · obtain ⟨a, ha, rfl⟩ := nI_of c_1
    refine gr_iload_n dX8_factor_4 rfl ?_
    refine gr_aload_n dX8_factor_5 rfl ?_
    refine gr_getf dX8_factor_6 cls_X8 0 (by decide) fl_X8_23 (co_ra hZ hI) rfl ?_
    refine gr_getf dX8_factor_9 cls_X1 0 (by decide) fl_X8_59 (eq_0 (co_eq hZ hI)) rfl ?_
    refine gr_icmpleN 25 dX8_factor_12 (by decide) ha (by omega) (fun c_12 => ?_) (fun c_12 => ?_)
    · refine gr_iload_n dX8_factor_25 rfl ?_
      refine gr_iflt 35 dX8_factor_26 (by decide) (fun c_26 => ?_) (fun c_26 => ?_)
      · exact gr_throw hl0 rfl rfl (thr_I (is := 72) (text := "powers are 0 .. 6") (by decide)) dX8_factor_35 dX8_factor_38 dX8_factor_39 dX8_factor_41 dX8_factor_44 ⟨by show 7 ≤ d + 8; omega, by show 448 ≤ 64 * (d + 8); omega⟩ (Nat.le_of_ble_eq_true rfl) ⟨(Nat.le_of_ble_eq_true rfl), (Nat.le_of_ble_eq_true rfl)⟩ ⟨(Nat.le_of_ble_eq_true rfl), (Nat.le_of_ble_eq_true rfl)⟩ ⟨rfl, Or.inr (Or.inl ⟨rfl, by unfold cdF; rw [if_pos (ltR_lt ha (by omega)), ltR_neg c_26]; rfl⟩)⟩
      · obtain ⟨j, hj, rfl⟩ := nI_of c_26
        refine gr_iload_n dX8_factor_29 rfl ?_
        refine gr_bipush (v := nI 7) dX8_factor_30 (by decide) ?_
        refine gr_icmpltN 45 dX8_factor_32 (by decide) hj (by omega) (fun c_32 => ?_) (fun c_32 => ?_)
        · refine gr_lload dX8_factor_45 rfl ?_
          refine gr_callS dX8_factor_47 (c_of l E (d + 6) _ y1) ysX3_of ⟨ml_X8_75, sm_X3_of⟩ rfl rfl (Nat.le_of_ble_eq_true rfl) ⟨(Nat.le_refl _), (Nat.le_refl _)⟩ ⟨(Nat.le_of_ble_eq_true rfl), (Nat.le_of_ble_eq_true rfl)⟩ (fun r0 h1 hp9 => ?_)
          obtain ⟨e1, rfl⟩ := hp9
          subst h1
          refine gr_ifneN 63 dX8_factor_50 (by decide) (by have := zl (zL y1); omega) (fun c_50 => ?_) (fun c_50 => ?_)
          · refine gr_aload_n dX8_factor_63 rfl ?_
            refine gr_aload_n dX8_factor_64 rfl ?_
            refine gr_getf dX8_factor_65 cls_X8 0 (by decide) fl_X8_23 (co_ra hZ hI) rfl ?_
            refine gr_getf dX8_factor_68 cls_X1 1 (by decide) fl_X8_86 (eq_0 (co_eq hZ hI)) rfl ?_
            refine gr_iload_n dX8_factor_71 rfl ?_
            refine gr_aaloadI dX8_factor_72 (eq_1 (co_eq hZ hI)) (by omega) (by decide) (eq_R (by omega)) ?_
            refine gr_iload_n dX8_factor_73 rfl ?_
            refine gr_lload_n dX8_factor_74 rfl ?_
            refine gr_lload dX8_factor_75 rfl ?_
            refine gr_callS dX8_factor_77 (c_quotient l E (d + 5) _ x y1) ysX3_quotient ⟨ml_X8_90, sm_X3_quotient⟩ rfl rfl (Nat.le_of_ble_eq_true rfl) ⟨(Nat.le_refl _), (Nat.le_refl _)⟩ ⟨(Nat.le_of_ble_eq_true rfl), (Nat.le_of_ble_eq_true rfl)⟩ (fun r0 h1 hp9 => ?_)
            obtain ⟨e1, rfl⟩ := hp9
            subst h1
            rw [show (2 + (2 + a)) = 4 + a by omega]
            refine gr_callV dX8_factor_80 (c_change l E (d + 5) h Z hZ o F S tr zk kn mt bc n0 rv pa ba bs bv sn kv y zn zf cn cf (va_up F a (va_up (F a) j (zL x * zinv (zL y1)))) S c (4 + a) 7 (by omega) (by omega) (F a) (show c (4 + a) = ga_f E 7 (F a) by rw [show 4 + a = 2 + (a + 2) by omega, hI.2.2.1 (a + 2) (by omega), eqC_s, if_pos (by omega)]) j (by omega) (zL x * zinv (zL y1)) (cu_eq hI a (by omega) _)) ysX8_change ⟨ml_X8_94, im_X8_change, sl_X8_change⟩ (co_ra hZ hI) (show vwCl[8]? = some (RX8, TX8, _) from rfl) rfl rfl (Nat.le_of_ble_eq_true rfl) ⟨(Nat.le_refl _), (Nat.le_refl _)⟩ ⟨(Nat.le_of_ble_eq_true rfl), (Nat.le_of_ble_eq_true rfl)⟩ (fun r0 h1 hp9 => ?_)
            have hcd : cdF o (nI a) (nI j) (zL y1) = 0 := by
              unfold cdF
              rw [if_pos (ltR_lt ha (by omega)), if_pos (ltR_lt hj (by omega)), if_neg (fun z => c_50 (by rw [z]; rfl))]
            rcases hp9 with ⟨e, rfl, rfl⟩ | ⟨e, c2, hI2, rfl, rfl⟩
            · exact gr_X (gr_zreturn dX8_factor_83 rfl rfl (Nat.le_of_ble_eq_true rfl) (Nat.le_of_ble_eq_true rfl) ⟨hcd, Or.inl ⟨by rw [ix_nI ha, ix_nI hj]; exact e, rfl, rfl⟩⟩)
            · exact gr_X (gr_zreturn dX8_factor_83 rfl rfl (Nat.le_of_ble_eq_true rfl) (Nat.le_of_ble_eq_true rfl) ⟨hcd, Or.inr ⟨by rw [ix_nI ha, ix_nI hj]; exact e, c2, by rw [ix_nI ha, ix_nI hj]; exact hI2, rfl, rfl⟩⟩)
          · exact gr_throw hl0 rfl rfl (thr_R) dX8_factor_53 dX8_factor_56 dX8_factor_57 dX8_factor_59 dX8_factor_62 ⟨by show 7 ≤ d + 8; omega, by show 448 ≤ 64 * (d + 8); omega⟩ (Nat.le_of_ble_eq_true rfl) ⟨(Nat.le_of_ble_eq_true rfl), (Nat.le_of_ble_eq_true rfl)⟩ ⟨(Nat.le_of_ble_eq_true rfl), (Nat.le_of_ble_eq_true rfl)⟩ ⟨rfl, Or.inr (Or.inr ⟨rfl, by unfold cdF; rw [if_pos (ltR_lt ha (by omega)), if_pos (ltR_lt hj (by omega)), if_pos (Fin.ext c_50)]⟩)⟩
        · exact gr_throw hl0 rfl rfl (thr_I (is := 72) (text := "powers are 0 .. 6") (by decide)) dX8_factor_35 dX8_factor_38 dX8_factor_39 dX8_factor_41 dX8_factor_44 ⟨by show 7 ≤ d + 8; omega, by show 448 ≤ 64 * (d + 8); omega⟩ (Nat.le_of_ble_eq_true rfl) ⟨(Nat.le_of_ble_eq_true rfl), (Nat.le_of_ble_eq_true rfl)⟩ ⟨(Nat.le_of_ble_eq_true rfl), (Nat.le_of_ble_eq_true rfl)⟩ ⟨rfl, Or.inr (Or.inl ⟨rfl, by unfold cdF; rw [if_pos (ltR_lt ha (by omega)), ltR_ge hj (by omega)]; rfl⟩)⟩
    · exact gr_throw hl0 rfl rfl (thr_B) dX8_factor_15 dX8_factor_18 dX8_factor_19 dX8_factor_21 dX8_factor_24 ⟨by show 7 ≤ d + 8; omega, by show 448 ≤ 64 * (d + 8); omega⟩ (Nat.le_of_ble_eq_true rfl) ⟨(Nat.le_of_ble_eq_true rfl), (Nat.le_of_ble_eq_true rfl)⟩ ⟨(Nat.le_of_ble_eq_true rfl), (Nat.le_of_ble_eq_true rfl)⟩ ⟨rfl, Or.inl ⟨rfl, by unfold cdF; rw [ltR_ge ha (by omega)]; rfl⟩⟩

set_option maxHeartbeats 4000000 in
set_option maxRecDepth 100000 in
theorem c_right (l : Launch) (hl0 : l.stackTraces = false) (E : ga_E) (d : Nat) (h : ga_H) (Z : Nat → Nat) (hZ : ga_inj Z 65) (o : Nat) (F : Nat → Nat → zp) (S : Nat → zp) (tr : Nat → zp) (zk : Bool) (kn : Bool) (mt : Bool) (bc : Nat) (n0 : Nat) (rv : Nat → zp) (pa : Nat → zp) (ba : Nat → zp) (bs : Nat → Nat) (bv : Nat → Nat → zp) (sn : Nat) (kv : Nat) (y : Nat → zp) (zn : Nat) (zf : Nat → zp) (cn : Nat) (cf : Nat → zp) (c : Nat → va_E) (hI : coI E Z c o F S tr zk kn mt bc n0 rv pa ba bs bv sn kv y zn zf cn cf) (p : Int32) (x y1 : Int64) : ga_OkX l E (d + 8) mX8_right [.ref (Z 0), .int p, .long x, .long y1] (ga_ov h Z c 65) 1 6 (fun r0 h' => cdR p (zL y1) = 0 ∧ (S (ix p) = (zL x * zinv (zL y1)) ∧ h' = ga_ov h Z c 65 ∧ r0 = some (.int (nI 0)) ∨ S (ix p) ≠ (zL x * zinv (zL y1)) ∧ ∃ c', coI E Z c' o F (va_up S (ix p) (zL x * zinv (zL y1))) tr false false mt bc n0 rv pa ba bs bv sn sn y zn zf cn cf ∧ h' = ga_ov h Z c' 65 ∧ r0 = some (.int (nI 1)))) (fun Y h' => h' = ga_ov h Z c 65 ∧ (Y = nmI ∧ cdR p (zL y1) = 1 ∨ Y = nmR ∧ cdR p (zL y1) = 2)) := by
  refine ga_OkX.of 0 _ (by decide) rfl (Nat.le_of_ble_eq_true rfl) rfl ?_
  refine gr_iload_n dX8_right_0 rfl ?_
  refine gr_iflt 10 dX8_right_1 (by decide) (fun c_1 => ?_) (fun c_1 => ?_)
  · exact gr_throw hl0 rfl rfl (thr_I (is := 98) (text := "powers are 0 .. 10") (by decide)) dX8_right_10 dX8_right_13 dX8_right_14 dX8_right_16 dX8_right_19 ⟨by show 7 ≤ d + 8; omega, by show 448 ≤ 64 * (d + 8); omega⟩ (Nat.le_of_ble_eq_true rfl) ⟨(Nat.le_of_ble_eq_true rfl), (Nat.le_of_ble_eq_true rfl)⟩ ⟨(Nat.le_of_ble_eq_true rfl), (Nat.le_of_ble_eq_true rfl)⟩ ⟨rfl, Or.inl ⟨rfl, by unfold cdR; rw [ltR_neg c_1]; rfl⟩⟩
  · obtain ⟨j, hj, rfl⟩ := nI_of c_1
    refine gr_iload_n dX8_right_4 rfl ?_
    refine gr_bipush (v := nI 11) dX8_right_5 (by decide) ?_
    refine gr_icmpltN 20 dX8_right_7 (by decide) hj (by omega) (fun c_7 => ?_) (fun c_7 => ?_)
    · refine gr_lload dX8_right_20 rfl ?_
      refine gr_callS dX8_right_22 (c_of l E (d + 6) _ y1) ysX3_of ⟨ml_X8_75, sm_X3_of⟩ rfl rfl (Nat.le_of_ble_eq_true rfl) ⟨(Nat.le_refl _), (Nat.le_refl _)⟩ ⟨(Nat.le_of_ble_eq_true rfl), (Nat.le_of_ble_eq_true rfl)⟩ (fun r0 h1 hp9 => ?_)
      obtain ⟨e1, rfl⟩ := hp9
      subst h1
      refine gr_ifneN 38 dX8_right_25 (by decide) (by have := zl (zL y1); omega) (fun c_25 => ?_) (fun c_25 => ?_)
      · refine gr_aload_n dX8_right_38 rfl ?_
        refine gr_aload_n dX8_right_39 rfl ?_
        refine gr_getf dX8_right_40 cls_X8 0 (by decide) fl_X8_23 (co_ra hZ hI) rfl ?_
        refine gr_getf dX8_right_43 cls_X1 2 (by decide) fl_X8_100 (eq_0 (co_eq hZ hI)) rfl ?_
        refine gr_iload_n dX8_right_46 rfl ?_
        refine gr_lload_n dX8_right_47 rfl ?_
        refine gr_lload dX8_right_48 rfl ?_
        refine gr_callS dX8_right_50 (c_quotient l E (d + 5) _ x y1) ysX3_quotient ⟨ml_X8_90, sm_X3_quotient⟩ rfl rfl (Nat.le_of_ble_eq_true rfl) ⟨(Nat.le_refl _), (Nat.le_refl _)⟩ ⟨(Nat.le_of_ble_eq_true rfl), (Nat.le_of_ble_eq_true rfl)⟩ (fun r0 h1 hp9 => ?_)
        obtain ⟨e1, rfl⟩ := hp9
        subst h1
        refine gr_callV dX8_right_53 (c_change l E (d + 5) h Z hZ o F S tr zk kn mt bc n0 rv pa ba bs bv sn kv y zn zf cn cf F (va_up S j (zL x * zinv (zL y1))) c (9) 11 (by omega) (by omega) S (hI.2.2.1 7 (by omega)) j (by omega) (zL x * zinv (zL y1)) (cu_rs hI _)) ysX8_change ⟨ml_X8_94, im_X8_change, sl_X8_change⟩ (co_ra hZ hI) (show vwCl[8]? = some (RX8, TX8, _) from rfl) rfl rfl (Nat.le_of_ble_eq_true rfl) ⟨(Nat.le_refl _), (Nat.le_refl _)⟩ ⟨(Nat.le_of_ble_eq_true rfl), (Nat.le_of_ble_eq_true rfl)⟩ (fun r0 h1 hp9 => ?_)
        have hcd : cdR (nI j) (zL y1) = 0 := by
          unfold cdR
          rw [if_pos (ltR_lt hj (by omega)), if_neg (fun z => c_25 (by rw [z]; rfl))]
        rcases hp9 with ⟨e, rfl, rfl⟩ | ⟨e, c2, hI2, rfl, rfl⟩
        · exact gr_X (gr_zreturn dX8_right_56 rfl rfl (Nat.le_of_ble_eq_true rfl) (Nat.le_of_ble_eq_true rfl) ⟨hcd, Or.inl ⟨by rw [ix_nI hj]; exact e, rfl, rfl⟩⟩)
        · exact gr_X (gr_zreturn dX8_right_56 rfl rfl (Nat.le_of_ble_eq_true rfl) (Nat.le_of_ble_eq_true rfl) ⟨hcd, Or.inr ⟨by rw [ix_nI hj]; exact e, c2, by rw [ix_nI hj]; exact hI2, rfl, rfl⟩⟩)
      · exact gr_throw hl0 rfl rfl (thr_R) dX8_right_28 dX8_right_31 dX8_right_32 dX8_right_34 dX8_right_37 ⟨by show 7 ≤ d + 8; omega, by show 448 ≤ 64 * (d + 8); omega⟩ (Nat.le_of_ble_eq_true rfl) ⟨(Nat.le_of_ble_eq_true rfl), (Nat.le_of_ble_eq_true rfl)⟩ ⟨(Nat.le_of_ble_eq_true rfl), (Nat.le_of_ble_eq_true rfl)⟩ ⟨rfl, Or.inr ⟨rfl, by unfold cdR; rw [if_pos (ltR_lt hj (by omega)), if_pos (Fin.ext c_25)]⟩⟩
    · exact gr_throw hl0 rfl rfl (thr_I (is := 98) (text := "powers are 0 .. 10") (by decide)) dX8_right_10 dX8_right_13 dX8_right_14 dX8_right_16 dX8_right_19 ⟨by show 7 ≤ d + 8; omega, by show 448 ≤ 64 * (d + 8); omega⟩ (Nat.le_of_ble_eq_true rfl) ⟨(Nat.le_of_ble_eq_true rfl), (Nat.le_of_ble_eq_true rfl)⟩ ⟨(Nat.le_of_ble_eq_true rfl), (Nat.le_of_ble_eq_true rfl)⟩ ⟨rfl, Or.inl ⟨rfl, by unfold cdR; rw [ltR_ge hj (by omega)]; rfl⟩⟩
