/-! The reference: times, start, put, end, rest -/
def zne (x y : zp) : Bool := !(decide (x = y))
theorem zne_t {x y : zp} (h : x.val ≠ y.val) : zne x y = true := by
  unfold zne; rw [decide_eq_false (fun z => h (congrArg Fin.val z))]; rfl
theorem zne_f {x y : zp} (h : x.val = y.val) : zne x y = false := by
  unfold zne; rw [decide_eq_true (Fin.ext h)]; rfl

set_option maxHeartbeats 4000000 in
set_option maxRecDepth 100000 in
theorem c_mtimes (l : Launch) (E : ga_E) (d : Nat) (h : ga_H) (A : Nat → Nat) (hA : ga_inj A 16) (s : Nat → Int32) (fa si sr pu va ro pa ba ma ti ta im sh un : Nat → zp) (pv : Nat → Option Nat) (kn : Bool) (hk : s 8 = bI kn) (pw : Nat) (hp : s 13 = nI pw) (hp8 : pw ≤ 8) (hma : ∀ a, a < pw → (ma a).val ≤ 13) (k i p : Int32) : ga_Ok l E (d + 1) mX9_times [.ref (A 0), .int k, .int i, .int p] (mdH E h A s fa si sr pu va ro pa ba ma ti ta im sh pv un) 0 0 (fun r0 h' => h' = mdH E h A (va_up s 0 (nI (cdT kn pw ma k i p))) fa si sr pu va ro pa ba ma ti ta im sh pv un ∧ ∃ r, r0 = some (.int r) ∧ (cdT kn pw ma k i p = 0 → r = nI (ti (169 * ix k + 13 * ix i + ix p)).val)) := by
  refine ga_Ok.of 1 _ (by decide) rfl (Nat.le_of_ble_eq_true rfl) rfl ?_
  cases kn
  · refine gr_aload_n dX9_times_0 rfl ?_
    refine gr_callV dX9_times_1 (c_unknown l E d h A hA s fa si sr pu va ro pa ba ma ti ta im sh un pv false hk) ysX9_unknown ⟨ml_X9_117, im_X9_unknown, sl_X9_unknown⟩ (md_0 hA) (show vwCl[9]? = some (RX9, TX9, _) from rfl) rfl rfl (Nat.le_of_ble_eq_true rfl) ⟨(Nat.le_refl _), (Nat.le_refl _)⟩ ⟨(Nat.le_refl _), (Nat.le_refl _)⟩ (fun r0 h1 hp9 => ?_)
    obtain ⟨e1, rfl⟩ := hp9
    subst h1
    refine gr_ifeq 9 dX9_times_4 (by decide) (fun z => absurd z (by decide)) (fun _ => ?_)
    refine gr_iconst (v := nI 0) dX9_times_7 rfl ?_
    exact gr_ireturn dX9_times_8 rfl (Nat.le_refl _) (Nat.le_refl _) ⟨rfl, _, rfl, fun z => absurd (show (1 : Nat) = 0 from z) (by decide)⟩
  · refine gr_aload_n dX9_times_0 rfl ?_
    refine gr_callV dX9_times_1 (c_unknown l E d h A hA s fa si sr pu va ro pa ba ma ti ta im sh un pv true hk) ysX9_unknown ⟨ml_X9_117, im_X9_unknown, sl_X9_unknown⟩ (md_0 hA) (show vwCl[9]? = some (RX9, TX9, _) from rfl) rfl rfl (Nat.le_of_ble_eq_true rfl) ⟨(Nat.le_refl _), (Nat.le_refl _)⟩ ⟨(Nat.le_refl _), (Nat.le_refl _)⟩ (fun r0 h1 hp9 => ?_)
    obtain ⟨e1, rfl⟩ := hp9
    subst h1
    refine gr_ifeq 9 dX9_times_4 (by decide) (fun _ => ?_) (fun z => absurd rfl z)
    refine gr_iload_n dX9_times_9 rfl ?_
    refine gr_iflt 35 dX9_times_10 (by decide) (fun c_10 => ?_) (fun c_10 => ?_)
    · refine gr_iconst (v := nI 1) dX9_times_35 rfl ?_
      refine gr_goto 40 dX9_times_36 (by decide) ?_
      refine gr_istore dX9_times_40 (by decide) rfl ?_
      refine gr_iload dX9_times_42 rfl ?_
      refine gr_ifneN 64 dX9_times_44 (by decide) (by omega) (fun _ => ?_) (fun z => absurd z (by decide))
      refine gr_aload_n dX9_times_64 rfl ?_
      refine gr_iload dX9_times_65 rfl ?_
      refine gr_ifeqN 74 dX9_times_67 (by decide) (by omega) (fun z => absurd z (by decide)) (fun _ => ?_)
      refine gr_iconst (v := nI 2) dX9_times_70 rfl ?_
      refine gr_goto 75 dX9_times_71 (by decide) ?_
      refine gr_putf dX9_times_75 cls_X9 0 (by decide) fl_X9_7 rfl rfl rfl (Nat.le_of_ble_eq_true rfl) (md_0 hA) ?_
      rw [md_s0 hA]
      refine gr_iload dX9_times_78 rfl ?_
      refine gr_ifeqN 87 dX9_times_80 (by decide) (by omega) (fun z => absurd z (by decide)) (fun _ => ?_)
      refine gr_iconst (v := nI 0) dX9_times_83 rfl ?_
      refine gr_goto 104 dX9_times_84 (by decide) ?_
      have hc : cdT true pw ma k i p = 2 := by
        unfold cdT
        rw [if_pos rfl, if_neg (fun z => absurd z.1 (by rw [ltR_neg c_10]; decide))]
      refine gr_ireturn dX9_times_104 rfl (Nat.le_refl _) (Nat.le_refl _) ⟨by rw [hc, va_uu], _, rfl, fun z => absurd (hc.symm.trans z) (by decide)⟩
    · obtain ⟨a, ha, rfl⟩ := nI_of c_10
      refine gr_iload_n dX9_times_13 rfl ?_
      refine gr_aload_n dX9_times_14 rfl ?_
      refine gr_getf dX9_times_15 cls_X9 13 (by decide) fl_X9_48 (md_0 hA) rfl (gr_top (congrArg Value.int (show va_up s 0 (nI 0) 13 = nI pw from hp)) ?_)
      refine gr_icmpgeN 35 dX9_times_18 (by decide) (by omega) (by omega) (fun c_18 => ?_) (fun c_18 => ?_)
      · refine gr_iconst (v := nI 1) dX9_times_35 rfl ?_
        refine gr_goto 40 dX9_times_36 (by decide) ?_
        refine gr_istore dX9_times_40 (by decide) rfl ?_
        refine gr_iload dX9_times_42 rfl ?_
        refine gr_ifneN 64 dX9_times_44 (by decide) (by omega) (fun _ => ?_) (fun z => absurd z (by decide))
        refine gr_aload_n dX9_times_64 rfl ?_
        refine gr_iload dX9_times_65 rfl ?_
        refine gr_ifeqN 74 dX9_times_67 (by decide) (by omega) (fun z => absurd z (by decide)) (fun _ => ?_)
        refine gr_iconst (v := nI 2) dX9_times_70 rfl ?_
        refine gr_goto 75 dX9_times_71 (by decide) ?_
        refine gr_putf dX9_times_75 cls_X9 0 (by decide) fl_X9_7 rfl rfl rfl (Nat.le_of_ble_eq_true rfl) (md_0 hA) ?_
        rw [md_s0 hA]
        refine gr_iload dX9_times_78 rfl ?_
        refine gr_ifeqN 87 dX9_times_80 (by decide) (by omega) (fun z => absurd z (by decide)) (fun _ => ?_)
        refine gr_iconst (v := nI 0) dX9_times_83 rfl ?_
        refine gr_goto 104 dX9_times_84 (by decide) ?_
        have hc : cdT true pw ma (nI a) i p = 2 := by
          unfold cdT
          rw [if_pos rfl, if_neg (fun z => absurd z.1 (by rw [ltR_ge ha c_18]; decide))]
        refine gr_ireturn dX9_times_104 rfl (Nat.le_refl _) (Nat.le_refl _) ⟨by rw [hc, va_uu], _, rfl, fun z => absurd (hc.symm.trans z) (by decide)⟩
      · refine gr_iload_n dX9_times_21 rfl ?_
        refine gr_iflt 35 dX9_times_22 (by decide) (fun c_22 => ?_) (fun c_22 => ?_)
        · refine gr_iconst (v := nI 1) dX9_times_35 rfl ?_
          refine gr_goto 40 dX9_times_36 (by decide) ?_
          refine gr_istore dX9_times_40 (by decide) rfl ?_
          refine gr_iload dX9_times_42 rfl ?_
          refine gr_ifneN 64 dX9_times_44 (by decide) (by omega) (fun _ => ?_) (fun z => absurd z (by decide))
          refine gr_aload_n dX9_times_64 rfl ?_
          refine gr_iload dX9_times_65 rfl ?_
          refine gr_ifeqN 74 dX9_times_67 (by decide) (by omega) (fun z => absurd z (by decide)) (fun _ => ?_)
          refine gr_iconst (v := nI 2) dX9_times_70 rfl ?_
          refine gr_goto 75 dX9_times_71 (by decide) ?_
          refine gr_putf dX9_times_75 cls_X9 0 (by decide) fl_X9_7 rfl rfl rfl (Nat.le_of_ble_eq_true rfl) (md_0 hA) ?_
          rw [md_s0 hA]
          refine gr_iload dX9_times_78 rfl ?_
          refine gr_ifeqN 87 dX9_times_80 (by decide) (by omega) (fun z => absurd z (by decide)) (fun _ => ?_)
          refine gr_iconst (v := nI 0) dX9_times_83 rfl ?_
          refine gr_goto 104 dX9_times_84 (by decide) ?_
          have hc : cdT true pw ma (nI a) i p = 2 := by
            unfold cdT
            rw [if_pos rfl, if_neg (fun z => absurd z.2.2 (by rw [ltR_neg c_22]; decide))]
          refine gr_ireturn dX9_times_104 rfl (Nat.le_refl _) (Nat.le_refl _) ⟨by rw [hc, va_uu], _, rfl, fun z => absurd (hc.symm.trans z) (by decide)⟩
        · obtain ⟨j, hj, rfl⟩ := nI_of c_22
          refine gr_iload_n dX9_times_25 rfl ?_
          refine gr_bipush (v := nI 12) dX9_times_26 (by decide) ?_
          refine gr_icmpgtN 35 dX9_times_28 (by decide) (by omega) (by omega) (fun c_28 => ?_) (fun c_28 => ?_)
          · refine gr_iconst (v := nI 1) dX9_times_35 rfl ?_
            refine gr_goto 40 dX9_times_36 (by decide) ?_
            refine gr_istore dX9_times_40 (by decide) rfl ?_
            refine gr_iload dX9_times_42 rfl ?_
            refine gr_ifneN 64 dX9_times_44 (by decide) (by omega) (fun _ => ?_) (fun z => absurd z (by decide))
            refine gr_aload_n dX9_times_64 rfl ?_
            refine gr_iload dX9_times_65 rfl ?_
            refine gr_ifeqN 74 dX9_times_67 (by decide) (by omega) (fun z => absurd z (by decide)) (fun _ => ?_)
            refine gr_iconst (v := nI 2) dX9_times_70 rfl ?_
            refine gr_goto 75 dX9_times_71 (by decide) ?_
            refine gr_putf dX9_times_75 cls_X9 0 (by decide) fl_X9_7 rfl rfl rfl (Nat.le_of_ble_eq_true rfl) (md_0 hA) ?_
            rw [md_s0 hA]
            refine gr_iload dX9_times_78 rfl ?_
            refine gr_ifeqN 87 dX9_times_80 (by decide) (by omega) (fun z => absurd z (by decide)) (fun _ => ?_)
            refine gr_iconst (v := nI 0) dX9_times_83 rfl ?_
            refine gr_goto 104 dX9_times_84 (by decide) ?_
            have hc : cdT true pw ma (nI a) i (nI j) = 2 := by
              unfold cdT
              rw [if_pos rfl, if_neg (fun z => absurd z.2.2 (by rw [ltR_ge hj (by omega)]; decide))]
            refine gr_ireturn dX9_times_104 rfl (Nat.le_refl _) (Nat.le_refl _) ⟨by rw [hc, va_uu], _, rfl, fun z => absurd (hc.symm.trans z) (by decide)⟩
          · refine gr_iload_n dX9_times_31 rfl ?_
            refine gr_ifge 39 dX9_times_32 (by decide) (fun c_32 => ?_) (fun c_32 => ?_)
            · obtain ⟨i1, hi1, rfl⟩ := nI_of (Int32.not_lt.mpr c_32)
              refine gr_iconst (v := nI 0) dX9_times_39 rfl ?_
              refine gr_istore dX9_times_40 (by decide) rfl ?_
              refine gr_iload dX9_times_42 rfl ?_
              refine gr_ifneN 64 dX9_times_44 (by decide) (by omega) (fun z => absurd rfl z) (fun _ => ?_)
              refine gr_iload_n dX9_times_47 rfl ?_
              refine gr_aload_n dX9_times_48 rfl ?_
              refine gr_getf dX9_times_49 cls_X9 15 (by decide) fl_X9_54 (md_0 hA) rfl ?_
              refine gr_iload_n dX9_times_52 rfl ?_
              refine gr_ialoadF dX9_times_53 (md_9 hA) (by omega) (by decide) ?_
              refine gr_icmpltN 61 dX9_times_54 (by decide) hi1 (by have := zl (ma a); omega) (fun c_54 => ?_) (fun c_54 => ?_)
              · refine gr_iconst (v := nI 0) dX9_times_61 rfl ?_
                refine gr_istore dX9_times_62 (by decide) rfl ?_
                refine gr_aload_n dX9_times_64 rfl ?_
                refine gr_iload dX9_times_65 rfl ?_
                refine gr_ifeqN 74 dX9_times_67 (by decide) (by omega) (fun _ => ?_) (fun z => absurd rfl z)
                refine gr_iconst (v := nI 0) dX9_times_74 rfl ?_
                refine gr_putf dX9_times_75 cls_X9 0 (by decide) fl_X9_7 rfl rfl rfl (Nat.le_of_ble_eq_true rfl) (md_0 hA) ?_
                rw [md_s0 hA]
                refine gr_iload dX9_times_78 rfl ?_
                refine gr_ifeqN 87 dX9_times_80 (by decide) (by omega) (fun _ => ?_) (fun z => absurd rfl z)
                refine gr_aload_n dX9_times_87 rfl ?_
                refine gr_getf dX9_times_88 cls_X9 16 (by decide) fl_X9_57 (md_0 hA) rfl ?_
                refine gr_sipush (v := nI 169) dX9_times_91 (by decide) ?_
                refine gr_iload_n dX9_times_94 rfl ?_
                refine gr_imulN dX9_times_95 ?_
                refine gr_bipush (v := nI 13) dX9_times_96 (by decide) ?_
                refine gr_iload_n dX9_times_98 rfl ?_
                refine gr_imulN dX9_times_99 ?_
                refine gr_iaddN dX9_times_100 ?_
                refine gr_iload_n dX9_times_101 rfl ?_
                refine gr_iaddN dX9_times_102 ?_
                refine gr_ialoadF dX9_times_103 (md_10 hA) (by have := hma a c_18; omega) (by decide) ?_
                have hc : cdT true pw ma (nI a) (nI i1) (nI j) = 0 := by
                  unfold cdT
                  rw [if_pos rfl, if_pos ⟨ltR_lt ha c_18, by rw [ix_nI ha]; exact ltR_lt hi1 c_54, ltR_lt hj (by omega)⟩]
                exact gr_ireturn dX9_times_104 rfl (Nat.le_refl _) (Nat.le_refl _) ⟨by rw [hc, va_uu], _, rfl, fun _ => by rw [ix_nI ha, ix_nI hi1, ix_nI hj]⟩
              · refine gr_iconst (v := nI 1) dX9_times_57 rfl ?_
                refine gr_goto 62 dX9_times_58 (by decide) ?_
                refine gr_istore dX9_times_62 (by decide) rfl ?_
                refine gr_aload_n dX9_times_64 rfl ?_
                refine gr_iload dX9_times_65 rfl ?_
                refine gr_ifeqN 74 dX9_times_67 (by decide) (by omega) (fun z => absurd z (by decide)) (fun _ => ?_)
                refine gr_iconst (v := nI 2) dX9_times_70 rfl ?_
                refine gr_goto 75 dX9_times_71 (by decide) ?_
                refine gr_putf dX9_times_75 cls_X9 0 (by decide) fl_X9_7 rfl rfl rfl (Nat.le_of_ble_eq_true rfl) (md_0 hA) ?_
                rw [md_s0 hA]
                refine gr_iload dX9_times_78 rfl ?_
                refine gr_ifeqN 87 dX9_times_80 (by decide) (by omega) (fun z => absurd z (by decide)) (fun _ => ?_)
                refine gr_iconst (v := nI 0) dX9_times_83 rfl ?_
                refine gr_goto 104 dX9_times_84 (by decide) ?_
                have hc : cdT true pw ma (nI a) (nI i1) (nI j) = 2 := by
                  unfold cdT
                  rw [if_pos rfl, if_neg (fun z => absurd z.2.1 (by rw [ix_nI ha, ltR_ge hi1 c_54]; decide))]
                refine gr_ireturn dX9_times_104 rfl (Nat.le_refl _) (Nat.le_refl _) ⟨by rw [hc, va_uu], _, rfl, fun z => absurd (hc.symm.trans z) (by decide)⟩
            · refine gr_iconst (v := nI 1) dX9_times_35 rfl ?_
              refine gr_goto 40 dX9_times_36 (by decide) ?_
              refine gr_istore dX9_times_40 (by decide) rfl ?_
              refine gr_iload dX9_times_42 rfl ?_
              refine gr_ifneN 64 dX9_times_44 (by decide) (by omega) (fun _ => ?_) (fun z => absurd z (by decide))
              refine gr_aload_n dX9_times_64 rfl ?_
              refine gr_iload dX9_times_65 rfl ?_
              refine gr_ifeqN 74 dX9_times_67 (by decide) (by omega) (fun z => absurd z (by decide)) (fun _ => ?_)
              refine gr_iconst (v := nI 2) dX9_times_70 rfl ?_
              refine gr_goto 75 dX9_times_71 (by decide) ?_
              refine gr_putf dX9_times_75 cls_X9 0 (by decide) fl_X9_7 rfl rfl rfl (Nat.le_of_ble_eq_true rfl) (md_0 hA) ?_
              rw [md_s0 hA]
              refine gr_iload dX9_times_78 rfl ?_
              refine gr_ifeqN 87 dX9_times_80 (by decide) (by omega) (fun z => absurd z (by decide)) (fun _ => ?_)
              refine gr_iconst (v := nI 0) dX9_times_83 rfl ?_
              refine gr_goto 104 dX9_times_84 (by decide) ?_
              have hc : cdT true pw ma (nI a) i (nI j) = 2 := by
                unfold cdT
                rw [if_pos rfl, if_neg (fun z => absurd z.2.1 (by rw [ltR_neg (Int32.not_le.mp c_32)]; decide))]
              refine gr_ireturn dX9_times_104 rfl (Nat.le_refl _) (Nat.le_refl _) ⟨by rw [hc, va_uu], _, rfl, fun z => absurd (hc.symm.trans z) (by decide)⟩

set_option maxHeartbeats 4000000 in
set_option maxRecDepth 100000 in
theorem c_mstart (l : Launch) (E : ga_E) (d : Nat) (h : ga_H) (A : Nat → Nat) (hA : ga_inj A 16) (s : Nat → Int32) (fa si sr pu va ro pa ba ma ti ta im sh un : Nat → zp) (pv : Nat → Option Nat) (t : Nat) (ht : s 5 = nI t) (ht12 : t ≤ 12) (x : Int64) : ga_Ok l E (d + 1) mX9_start [.ref (A 0), .long x] (mdH E h A s fa si sr pu va ro pa ba ma ti ta im sh pv un) 0 0 (fun r0 h' => t = 12 ∧ h' = mdH E h A (va_up s 0 (nI 0)) fa si sr pu va ro pa ba ma ti ta im sh pv un ∧ r0 = some (.int (nI 0)) ∨ t < 12 ∧ h' = mdH E h A (va_up (va_up s 0 (nI 0)) 5 (nI (t + 1))) fa si (va_up sr t (zL x)) pu va ro pa ba ma ti ta im sh pv un ∧ r0 = some (.int (nI 1))) := by
  refine ga_Ok.of 0 _ (by decide) rfl (Nat.le_of_ble_eq_true rfl) rfl ?_
  refine gr_aload_n dX9_start_0 rfl ?_
  refine gr_iconst (v := nI 0) dX9_start_1 rfl ?_
  refine gr_putf dX9_start_2 cls_X9 0 (by decide) fl_X9_7 rfl rfl rfl (Nat.le_of_ble_eq_true rfl) (md_0 hA) ?_
  rw [md_s0 hA]
  refine gr_aload_n dX9_start_5 rfl ?_
  refine gr_getf dX9_start_6 cls_X9 5 (by decide) fl_X9_23 (md_0 hA) rfl (gr_top (congrArg Value.int (show va_up s 0 (nI 0) 5 = nI t from ht)) ?_)
  refine gr_bipush (v := nI 12) dX9_start_9 (by decide) ?_
  refine gr_icmpneN 16 dX9_start_11 (by decide) (by omega) (by omega) (fun c_11 => ?_) (fun c_11 => ?_)
  · refine gr_aload_n dX9_start_16 rfl ?_
    refine gr_getf dX9_start_17 cls_X9 4 (by decide) fl_X9_20 (md_0 hA) rfl ?_
    refine gr_aload_n dX9_start_20 rfl ?_
    refine gr_getf dX9_start_21 cls_X9 5 (by decide) fl_X9_23 (md_0 hA) rfl (gr_top (congrArg Value.int (show va_up s 0 (nI 0) 5 = nI t from ht)) ?_)
    refine gr_lload_n dX9_start_24 rfl ?_
    refine gr_callS dX9_start_25 (c_modulo l E d _ x) ysX9_modulo ⟨ml_X9_95, sm_X9_modulo⟩ rfl rfl (Nat.le_of_ble_eq_true rfl) ⟨(Nat.le_refl _), (Nat.le_refl _)⟩ ⟨(Nat.le_refl _), (Nat.le_refl _)⟩ (fun r0 h1 hp9 => ?_)
    obtain ⟨e1, rfl⟩ := hp9
    subst h1
    refine gr_iastoreF dX9_start_28 (md_3 hA) (by omega) (by decide) ?_
    rw [md_w3 hA]
    refine gr_aload_n dX9_start_29 rfl ?_
    refine gr_dup dX9_start_30 rfl ?_
    refine gr_getf dX9_start_31 cls_X9 5 (by decide) fl_X9_23 (md_0 hA) rfl (gr_top (congrArg Value.int (show va_up s 0 (nI 0) 5 = nI t from ht)) ?_)
    refine gr_iconst (v := nI 1) dX9_start_34 rfl ?_
    refine gr_iaddN dX9_start_35 ?_
    refine gr_putf dX9_start_36 cls_X9 5 (by decide) fl_X9_23 rfl rfl rfl (Nat.le_of_ble_eq_true rfl) (md_0 hA) ?_
    rw [md_s5 hA]
    refine gr_iconst (v := nI 1) dX9_start_39 rfl ?_
    exact gr_zreturn dX9_start_40 rfl rfl (Nat.le_refl _) (Nat.le_refl _) (Or.inr ⟨by omega, rfl, rfl⟩)
  · refine gr_iconst (v := nI 0) dX9_start_14 rfl ?_
    exact gr_zreturn dX9_start_15 rfl rfl (Nat.le_refl _) (Nat.le_refl _) (Or.inl ⟨c_11, rfl, rfl⟩)

set_option maxHeartbeats 4000000 in
set_option maxRecDepth 100000 in
theorem c_mput (l : Launch) (E : ga_E) (d : Nat) (h : ga_H) (A : Nat → Nat) (hA : ga_inj A 16) (s : Nat → Int32) (fa si sr pu va ro pa ba ma ti ta im sh un : Nat → zp) (pv : Nat → Option Nat) (p v : Int32) : ga_Ok l E (d + 1) mX9_put [.ref (A 0), .int p, .int v] (mdH E h A s fa si sr pu va ro pa ba ma ti ta im sh pv un) 0 0 (fun r0 h' => cdP 13 p = 1 ∧ h' = mdH E h A (va_up s 0 (nI 1)) fa si sr pu va ro pa ba ma ti ta im sh pv un ∧ (∃ r, r0 = some (.int r)) ∨ cdP 13 p = 0 ∧ h' = mdH E h A (va_up s 0 (nI 0)) fa si sr (va_up pu (ix p) (zL v.toInt64)) va ro pa ba ma ti ta im sh pv un ∧ r0 = some (.int (bI (zne (pu (ix p)) (zL v.toInt64))))) := by
  refine ga_Ok.of 2 _ (by decide) rfl (Nat.le_of_ble_eq_true rfl) rfl ?_
  refine gr_aload_n dX9_put_0 rfl ?_
  refine gr_iload_n dX9_put_1 rfl ?_
  refine gr_iflt 11 dX9_put_2 (by decide) (fun c_a => ?_) (fun c_a => ?_)
  · refine gr_iconst (v := nI 1) dX9_put_11 rfl ?_
    refine gr_goto 16 dX9_put_12 (by decide) ?_
    refine gr_putf dX9_put_16 cls_X9 0 (by decide) fl_X9_7 rfl rfl rfl (Nat.le_of_ble_eq_true rfl) (md_0 hA) ?_
    rw [md_s0 hA]
    refine gr_aload_n dX9_put_19 rfl ?_
    refine gr_getf dX9_put_20 cls_X9 0 (by decide) fl_X9_7 (md_0 hA) rfl ?_
    refine gr_ifeq 28 dX9_put_23 (by decide) (fun z => absurd (show nI 1 = (0 : Int32) from z) (by decide)) (fun _ => ?_)
    refine gr_iconst (v := nI 0) dX9_put_26 rfl ?_
    have hc : cdP 13 p = 1 := by unfold cdP; rw [ltR_neg c_a]; rfl
    exact gr_zreturn dX9_put_27 rfl rfl (Nat.le_refl _) (Nat.le_refl _) (Or.inl ⟨hc, rfl, _, rfl⟩)
  · obtain ⟨j, hj, rfl⟩ := nI_of c_a
    refine gr_iload_n dX9_put_5 rfl ?_
    refine gr_bipush (v := nI 12) dX9_put_6 (by decide) ?_
    refine gr_icmpleN 15 dX9_put_8 (by decide) (by omega) (by omega) (fun c_b => ?_) (fun c_b => ?_)
    · refine gr_iconst (v := nI 0) dX9_put_15 rfl ?_
      refine gr_putf dX9_put_16 cls_X9 0 (by decide) fl_X9_7 rfl rfl rfl (Nat.le_of_ble_eq_true rfl) (md_0 hA) ?_
      rw [md_s0 hA]
      refine gr_aload_n dX9_put_19 rfl ?_
      refine gr_getf dX9_put_20 cls_X9 0 (by decide) fl_X9_7 (md_0 hA) rfl ?_
      refine gr_ifeq 28 dX9_put_23 (by decide) (fun _ => ?_) (fun z => absurd rfl z)
      refine gr_iload_n dX9_put_28 rfl ?_
      refine gr_i2l dX9_put_29 rfl ?_
      refine gr_callS dX9_put_30 (c_modulo l E d _ v.toInt64) ysX9_modulo ⟨ml_X9_95, sm_X9_modulo⟩ rfl rfl (Nat.le_of_ble_eq_true rfl) ⟨(Nat.le_refl _), (Nat.le_refl _)⟩ ⟨(Nat.le_refl _), (Nat.le_refl _)⟩ (fun r0 h1 hp9 => ?_)
      obtain ⟨e1, rfl⟩ := hp9
      subst h1
      refine gr_istore_n dX9_put_33 (by decide) rfl ?_
      refine gr_aload_n dX9_put_34 rfl ?_
      refine gr_getf dX9_put_35 cls_X9 6 (by decide) fl_X9_26 (md_0 hA) rfl ?_
      refine gr_iload_n dX9_put_38 rfl ?_
      refine gr_ialoadF dX9_put_39 (md_4 hA) (by omega) (by decide) ?_
      refine gr_iload_n dX9_put_40 rfl ?_
      refine gr_icmpeqN 48 dX9_put_41 (by decide) (by have := zl (pu j); omega) (by have := zl (zL v.toInt64); omega) (fun c_41 => ?_) (fun c_41 => ?_)
      · refine gr_iconst (v := nI 0) dX9_put_48 rfl ?_
        refine gr_istore dX9_put_49 (by decide) rfl ?_
        refine gr_aload_n dX9_put_51 rfl ?_
        refine gr_getf dX9_put_52 cls_X9 6 (by decide) fl_X9_26 (md_0 hA) rfl ?_
        refine gr_iload_n dX9_put_55 rfl ?_
        refine gr_iload_n dX9_put_56 rfl ?_
        refine gr_iastoreF dX9_put_57 (md_4 hA) (by omega) (by decide) ?_
        rw [md_w4 hA]
        refine gr_iload dX9_put_58 rfl ?_
        first
          | exact gr_zreturn dX9_put_60 rfl rfl (Nat.le_refl _) (Nat.le_refl _) (Or.inr ⟨by unfold cdP; rw [ltR_lt hj (by omega)]; rfl, by rw [ix_nI hj], by rw [ix_nI hj, zne_f c_41]; rfl⟩)
          | exact gr_zreturn dX9_put_60 rfl rfl (Nat.le_refl _) (Nat.le_refl _) (Or.inr ⟨by unfold cdP; rw [ltR_lt hj (by omega)]; rfl, by rw [ix_nI hj], by rw [ix_nI hj, zne_t c_41]; rfl⟩)
      · refine gr_iconst (v := nI 1) dX9_put_44 rfl ?_
        refine gr_goto 49 dX9_put_45 (by decide) ?_
        refine gr_istore dX9_put_49 (by decide) rfl ?_
        refine gr_aload_n dX9_put_51 rfl ?_
        refine gr_getf dX9_put_52 cls_X9 6 (by decide) fl_X9_26 (md_0 hA) rfl ?_
        refine gr_iload_n dX9_put_55 rfl ?_
        refine gr_iload_n dX9_put_56 rfl ?_
        refine gr_iastoreF dX9_put_57 (md_4 hA) (by omega) (by decide) ?_
        rw [md_w4 hA]
        refine gr_iload dX9_put_58 rfl ?_
        first
          | exact gr_zreturn dX9_put_60 rfl rfl (Nat.le_refl _) (Nat.le_refl _) (Or.inr ⟨by unfold cdP; rw [ltR_lt hj (by omega)]; rfl, by rw [ix_nI hj], by rw [ix_nI hj, zne_f c_41]; rfl⟩)
          | exact gr_zreturn dX9_put_60 rfl rfl (Nat.le_refl _) (Nat.le_refl _) (Or.inr ⟨by unfold cdP; rw [ltR_lt hj (by omega)]; rfl, by rw [ix_nI hj], by rw [ix_nI hj, zne_t c_41]; rfl⟩)
    · refine gr_iconst (v := nI 1) dX9_put_11 rfl ?_
      refine gr_goto 16 dX9_put_12 (by decide) ?_
      refine gr_putf dX9_put_16 cls_X9 0 (by decide) fl_X9_7 rfl rfl rfl (Nat.le_of_ble_eq_true rfl) (md_0 hA) ?_
      rw [md_s0 hA]
      refine gr_aload_n dX9_put_19 rfl ?_
      refine gr_getf dX9_put_20 cls_X9 0 (by decide) fl_X9_7 (md_0 hA) rfl ?_
      refine gr_ifeq 28 dX9_put_23 (by decide) (fun z => absurd (show nI 1 = (0 : Int32) from z) (by decide)) (fun _ => ?_)
      refine gr_iconst (v := nI 0) dX9_put_26 rfl ?_
      have hc : cdP 13 (nI j) = 1 := by unfold cdP; rw [ltR_ge hj (by omega)]; rfl
      exact gr_zreturn dX9_put_27 rfl rfl (Nat.le_refl _) (Nat.le_refl _) (Or.inl ⟨hc, rfl, _, rfl⟩)

theorem zsub_mod (x y : zp) : zo (x.val + 32003 - y.val) = x - y := by
  have h1 := zl x
  have h2 := zl y
  rw [show x.val + 32003 - y.val = x.val + (32003 - y.val) by omega, zo_add, zo_self, zneg_mod]
  grind
theorem zsub_mod0 (x : zp) : zo (x.val + 32003 - 0) = x - 0 := zsub_mod x 0

set_option maxHeartbeats 4000000 in
set_option maxRecDepth 100000 in
theorem c_mrest (l : Launch) (E : ga_E) (d : Nat) (h : ga_H) (A : Nat → Nat) (hA : ga_inj A 16) (s : Nat → Int32) (fa si sr pu va ro pa ba ma ti ta im sh un : Nat → zp) (pv : Nat → Option Nat) (o : Nat) (ho : s 1 = nI o) (ho4 : o ≤ 4) (p : Int32) : ga_Ok l E (d + 2) mX9_rest [.ref (A 0), .int p] (mdH E h A s fa si sr pu va ro pa ba ma ti ta im sh pv un) 0 0 (fun r0 h' => cdP 19 p = 1 ∧ h' = mdH E h A (va_up s 0 (nI 1)) fa si sr pu va ro pa ba ma ti ta im sh pv un ∧ (∃ r, r0 = some (.int r)) ∨ cdP 19 p = 0 ∧ ∃ im' sh', h' = mdH E h A (va_up s 0 (nI 0)) fa si sr pu va ro pa ba ma ti ta im' sh' pv un ∧ r0 = some (.int (nI (apE pu 1 fa o (ix p) - (if ix p < 11 then si (ix p) else 0)).val))) := by
  refine ga_Ok.of 0 _ (by decide) rfl (Nat.le_of_ble_eq_true rfl) rfl ?_
  refine gr_aload_n dX9_rest_0 rfl ?_
  refine gr_iload_n dX9_rest_1 rfl ?_
  refine gr_iflt 11 dX9_rest_2 (by decide) (fun c_a => ?_) (fun c_a => ?_)
  · refine gr_iconst (v := nI 1) dX9_rest_11 rfl ?_
    refine gr_goto 16 dX9_rest_12 (by decide) ?_
    refine gr_putf dX9_rest_16 cls_X9 0 (by decide) fl_X9_7 rfl rfl rfl (Nat.le_of_ble_eq_true rfl) (md_0 hA) ?_
    rw [md_s0 hA]
    refine gr_aload_n dX9_rest_19 rfl ?_
    refine gr_getf dX9_rest_20 cls_X9 0 (by decide) fl_X9_7 (md_0 hA) rfl ?_
    refine gr_ifeq 28 dX9_rest_23 (by decide) (fun z => absurd (show nI 1 = (0 : Int32) from z) (by decide)) (fun _ => ?_)
    refine gr_iconst (v := nI 0) dX9_rest_26 rfl ?_
    have hc : cdP 19 p = 1 := by unfold cdP; rw [ltR_neg c_a]; rfl
    exact gr_ireturn dX9_rest_27 rfl (Nat.le_refl _) (Nat.le_refl _) (Or.inl ⟨hc, rfl, _, rfl⟩)
  · obtain ⟨j, hj, rfl⟩ := nI_of c_a
    refine gr_iload_n dX9_rest_5 rfl ?_
    refine gr_bipush (v := nI 18) dX9_rest_6 (by decide) ?_
    refine gr_icmpleN 15 dX9_rest_8 (by decide) (by omega) (by omega) (fun c_b => ?_) (fun c_b => ?_)
    · refine gr_iconst (v := nI 0) dX9_rest_15 rfl ?_
      refine gr_putf dX9_rest_16 cls_X9 0 (by decide) fl_X9_7 rfl rfl rfl (Nat.le_of_ble_eq_true rfl) (md_0 hA) ?_
      rw [md_s0 hA]
      refine gr_aload_n dX9_rest_19 rfl ?_
      refine gr_getf dX9_rest_20 cls_X9 0 (by decide) fl_X9_7 (md_0 hA) rfl ?_
      refine gr_ifeq 28 dX9_rest_23 (by decide) (fun _ => ?_) (fun z => absurd rfl z)
      refine gr_aload_n dX9_rest_28 rfl ?_
      refine gr_aload_n dX9_rest_29 rfl ?_
      refine gr_getf dX9_rest_30 cls_X9 6 (by decide) fl_X9_26 (md_0 hA) rfl ?_
      refine gr_iconst (v := nI (1 : zp).val) dX9_rest_33 rfl ?_
      refine gr_callV dX9_rest_34 (c_apply l E d h A hA (va_up s 0 (nI 0)) fa si sr pu va ro pa ba ma ti ta im sh un pv (A 4) pu (fun _ _ => md_4 hA) 1 o ho ho4) ysX9_apply ⟨ml_X9_88, im_X9_apply, sl_X9_apply⟩ (md_0 hA) (show vwCl[9]? = some (RX9, TX9, _) from rfl) rfl rfl (Nat.le_of_ble_eq_true rfl) ⟨(Nat.le_refl _), (Nat.le_refl _)⟩ ⟨(Nat.le_refl _), (Nat.le_refl _)⟩ (fun r0 h1 hp9 => ?_)
      obtain ⟨im2, sh2, him, rfl, rfl⟩ := hp9
      refine gr_aload_n dX9_rest_37 rfl ?_
      refine gr_getf dX9_rest_38 cls_X9 18 (by decide) fl_X9_63 (md_0 hA) rfl ?_
      refine gr_iload_n dX9_rest_41 rfl ?_
      refine gr_ialoadF dX9_rest_42 (md_12 hA) (by omega) (by decide) ?_
      refine gr_sipush (v := nI 32003) dX9_rest_43 (by decide) ?_
      refine gr_iaddN dX9_rest_46 ?_
      refine gr_iload_n dX9_rest_47 rfl ?_
      refine gr_bipush (v := nI 11) dX9_rest_48 (by decide) ?_
      refine gr_icmpgeN 62 dX9_rest_50 (by decide) (by omega) (by omega) (fun c_50 => ?_) (fun c_50 => ?_)
      · refine gr_iconst (v := nI 0) dX9_rest_62 rfl ?_
        refine gr_isubN dX9_rest_63 (by have := zl (im2 j); first | (have := zl (si j); omega) | omega) ?_
        refine gr_remP (x := im2 j - (if j < 11 then si j else 0)) dX9_rest_64 dX9_rest_67 (by have := zl (im2 j); omega) (by
          first
            | (rw [if_pos c_50]; exact zsub_mod _ _)
            | (rw [if_neg (by omega)]; exact zsub_mod0 _)) ?_
        exact gr_ireturn dX9_rest_68 rfl (Nat.le_refl _) (Nat.le_refl _) (Or.inr ⟨by unfold cdP; rw [ltR_lt hj (by omega)]; rfl, im2, sh2, rfl, by rw [ix_nI hj, him j (by omega)]⟩)
      · refine gr_aload_n dX9_rest_53 rfl ?_
        refine gr_getf dX9_rest_54 cls_X9 3 (by decide) fl_X9_17 (md_0 hA) rfl ?_
        refine gr_iload_n dX9_rest_57 rfl ?_
        refine gr_ialoadF dX9_rest_58 (md_2 hA) (by omega) (by decide) ?_
        refine gr_goto 63 dX9_rest_59 (by decide) ?_
        refine gr_isubN dX9_rest_63 (by have := zl (im2 j); first | (have := zl (si j); omega) | omega) ?_
        refine gr_remP (x := im2 j - (if j < 11 then si j else 0)) dX9_rest_64 dX9_rest_67 (by have := zl (im2 j); omega) (by
          first
            | (rw [if_pos c_50]; exact zsub_mod _ _)
            | (rw [if_neg (by omega)]; exact zsub_mod0 _)) ?_
        exact gr_ireturn dX9_rest_68 rfl (Nat.le_refl _) (Nat.le_refl _) (Or.inr ⟨by unfold cdP; rw [ltR_lt hj (by omega)]; rfl, im2, sh2, rfl, by rw [ix_nI hj, him j (by omega)]⟩)
    · refine gr_iconst (v := nI 1) dX9_rest_11 rfl ?_
      refine gr_goto 16 dX9_rest_12 (by decide) ?_
      refine gr_putf dX9_rest_16 cls_X9 0 (by decide) fl_X9_7 rfl rfl rfl (Nat.le_of_ble_eq_true rfl) (md_0 hA) ?_
      rw [md_s0 hA]
      refine gr_aload_n dX9_rest_19 rfl ?_
      refine gr_getf dX9_rest_20 cls_X9 0 (by decide) fl_X9_7 (md_0 hA) rfl ?_
      refine gr_ifeq 28 dX9_rest_23 (by decide) (fun z => absurd (show nI 1 = (0 : Int32) from z) (by decide)) (fun _ => ?_)
      refine gr_iconst (v := nI 0) dX9_rest_26 rfl ?_
      have hc : cdP 19 (nI j) = 1 := by unfold cdP; rw [ltR_ge hj (by omega)]; rfl
      exact gr_ireturn dX9_rest_27 rfl (Nat.le_refl _) (Nat.le_refl _) (Or.inl ⟨hc, rfl, _, rfl⟩)

def LeM (fa : Nat → zp) (o : Nat) (q : Option Nat) : Prop := (q = none ∧ ∀ i, i ≤ o → ∀ a, a < 7 → fa (7 * i + a) = 0) ∨ ∃ i, q = some i ∧ i ≤ o ∧ (∃ a, a < 7 ∧ fa (7 * i + a) ≠ 0) ∧ ∀ k, k < i → ∀ a, a < 7 → fa (7 * k + a) = 0

set_option maxHeartbeats 4000000 in
set_option maxRecDepth 100000 in
theorem c_end_loop (l : Launch) (E : ga_E) (d : Nat) (h : ga_H) (A : Nat → Nat) (hA : ga_inj A 16) (s : Nat → Int32) (fa si sr pu va ro pa ba ma ti ta im sh un : Nat → zp) (pv : Nat → Option Nat) (o : Nat) (ho : s 1 = nI o) (ho4 : o ≤ 4) (w : Int32) (hw0 : cdP 2 w = 0 ∧ ix w = 0) : ∀ (g i : Nat), i + g = 7 * o + 7 → (∀ a, a < i → fa a = 0) → ga_G l E mX9_end (ga_Rm (d + 1) 0 0) (ga_Z E (fun r0 h' => cdP 2 w = 1 ∧ h' = mdH E h A (va_up s 0 (nI 1)) fa si sr pu va ro pa ba ma ti ta im sh pv un ∧ (∃ r, r0 = some (.int r)) ∨ cdP 2 w = 0 ∧ h' = mdH E h A (va_up s 0 (nI 0)) fa si sr pu va ro pa ba ma ti ta im sh pv un ∧ (ix w = 0 ∧ (∃ q, r0 = some (.int (optI q)) ∧ LeM fa o q) ∨ ix w = 1 ∧ ∃ q, r0 = some (.int (optI q)) ∧ GrM fa o q)) 0 0) 39 [some (.ref (A 0)), some (.int w), some (.int (nI i))] [] (mdH E h A (va_up s 0 (nI 0)) fa si sr pu va ro pa ba ma ti ta im sh pv un) 0 0 := by
  intro g
  induction g with
  | zero =>
    intro i hi hz
    refine gr_iload_n dX9_end_39 rfl (gr_bipush (v := nI 7) dX9_end_40 (by decide) (gr_aload_n dX9_end_42 rfl (gr_getf dX9_end_43 cls_X9 1 (by decide) fl_X9_75 (md_0 hA) rfl (gr_top (congrArg Value.int (show va_up s 0 (nI 0) 1 = nI o from ho)) (gr_imulN dX9_end_46 (gr_bipush (v := nI 7) dX9_end_47 (by decide) (gr_iaddN dX9_end_49 ?_)))))))
    refine gr_icmpgeN 73 dX9_end_50 (by decide) (by omega) (by omega) (fun _ => ?_) (fun z => absurd z (by omega))
    refine gr_iconst (v := -1) dX9_end_73 (by decide) ?_
    exact gr_ireturn dX9_end_74 rfl (Nat.le_refl _) (Nat.le_refl _) (Or.inr ⟨hw0.1, rfl, Or.inl ⟨hw0.2, none, rfl, Or.inl ⟨rfl, fun k hk a ha => hz _ (by omega)⟩⟩⟩)
  | succ g ih =>
    intro i hi hz
    refine gr_iload_n dX9_end_39 rfl (gr_bipush (v := nI 7) dX9_end_40 (by decide) (gr_aload_n dX9_end_42 rfl (gr_getf dX9_end_43 cls_X9 1 (by decide) fl_X9_75 (md_0 hA) rfl (gr_top (congrArg Value.int (show va_up s 0 (nI 0) 1 = nI o from ho)) (gr_imulN dX9_end_46 (gr_bipush (v := nI 7) dX9_end_47 (by decide) (gr_iaddN dX9_end_49 ?_)))))))
    refine gr_icmpgeN 73 dX9_end_50 (by decide) (by omega) (by omega) (fun z => absurd z (by omega)) (fun _ => ?_)
    refine gr_aload_n dX9_end_53 rfl ?_
    refine gr_getf dX9_end_54 cls_X9 2 (by decide) fl_X9_13 (md_0 hA) rfl ?_
    refine gr_iload_n dX9_end_57 rfl ?_
    refine gr_ialoadF dX9_end_58 (md_1 hA) (by omega) (by decide) ?_
    refine gr_ifeqN 67 dX9_end_59 (by decide) (by have := zl (fa i); omega) (fun c_59 => ?_) (fun c_59 => ?_)
    · refine gr_iinc (v := nI (_ + 1)) dX9_end_67 rfl (nI_1 _) (by decide) rfl ?_
      refine gr_goto 39 dX9_end_70 (by decide) ?_
      refine ih (i + 1) (by omega) (fun a1 ha1 => ?_)
      by_cases e : a1 = i
      · subst e; exact Fin.ext c_59
      · exact hz a1 (by omega)
    · refine gr_iload_n dX9_end_62 rfl ?_
      refine gr_bipush (v := nI 7) dX9_end_63 (by decide) ?_
      refine gr_idivN dX9_end_65 (by omega) (by omega) (by omega) ?_
      exact gr_ireturn dX9_end_66 rfl (Nat.le_refl _) (Nat.le_refl _) (Or.inr ⟨hw0.1, rfl, Or.inl ⟨hw0.2, some (i / 7), rfl, Or.inr ⟨i / 7, rfl, by omega, ⟨i % 7, by omega, by rw [show 7 * (i / 7) + i % 7 = i by omega]; exact fun z => c_59 (by rw [z]; rfl)⟩, fun k hk a ha => hz (7 * k + a) (by omega)⟩⟩⟩)

set_option maxHeartbeats 4000000 in
set_option maxRecDepth 100000 in
theorem c_mend (l : Launch) (E : ga_E) (d : Nat) (h : ga_H) (A : Nat → Nat) (hA : ga_inj A 16) (s : Nat → Int32) (fa si sr pu va ro pa ba ma ti ta im sh un : Nat → zp) (pv : Nat → Option Nat) (o : Nat) (ho : s 1 = nI o) (ho4 : o ≤ 4) (w : Int32) : ga_Ok l E (d + 1) mX9_end [.ref (A 0), .int w] (mdH E h A s fa si sr pu va ro pa ba ma ti ta im sh pv un) 0 0 (fun r0 h' => cdP 2 w = 1 ∧ h' = mdH E h A (va_up s 0 (nI 1)) fa si sr pu va ro pa ba ma ti ta im sh pv un ∧ (∃ r, r0 = some (.int r)) ∨ cdP 2 w = 0 ∧ h' = mdH E h A (va_up s 0 (nI 0)) fa si sr pu va ro pa ba ma ti ta im sh pv un ∧ (ix w = 0 ∧ (∃ q, r0 = some (.int (optI q)) ∧ LeM fa o q) ∨ ix w = 1 ∧ ∃ q, r0 = some (.int (optI q)) ∧ GrM fa o q)) := by
  refine ga_Ok.of 1 _ (by decide) rfl (Nat.le_of_ble_eq_true rfl) rfl ?_
  refine gr_aload_n dX9_end_0 rfl ?_
  refine gr_iload_n dX9_end_1 rfl ?_
  refine gr_iflt 10 dX9_end_2 (by decide) (fun c_a => ?_) (fun c_a => ?_)
  · refine gr_iconst (v := nI 1) dX9_end_10 rfl ?_
    refine gr_goto 15 dX9_end_11 (by decide) ?_
    refine gr_putf dX9_end_15 cls_X9 0 (by decide) fl_X9_7 rfl rfl rfl (Nat.le_of_ble_eq_true rfl) (md_0 hA) ?_
    rw [md_s0 hA]
    refine gr_aload_n dX9_end_18 rfl ?_
    refine gr_getf dX9_end_19 cls_X9 0 (by decide) fl_X9_7 (md_0 hA) rfl ?_
    refine gr_ifeq 27 dX9_end_22 (by decide) (fun z => absurd (show nI 1 = (0 : Int32) from z) (by decide)) (fun _ => ?_)
    refine gr_iconst (v := nI 0) dX9_end_25 rfl ?_
    have hc : cdP 2 w = 1 := by unfold cdP; rw [ltR_neg c_a]; rfl
    exact gr_ireturn dX9_end_26 rfl (Nat.le_refl _) (Nat.le_refl _) (Or.inl ⟨hc, rfl, _, rfl⟩)
  · obtain ⟨j, hj, rfl⟩ := nI_of c_a
    refine gr_iload_n dX9_end_5 rfl ?_
    refine gr_iconst (v := nI 1) dX9_end_6 rfl ?_
    refine gr_icmpleN 14 dX9_end_7 (by decide) (by omega) (by omega) (fun c_b => ?_) (fun c_b => ?_)
    · refine gr_iconst (v := nI 0) dX9_end_14 rfl ?_
      refine gr_putf dX9_end_15 cls_X9 0 (by decide) fl_X9_7 rfl rfl rfl (Nat.le_of_ble_eq_true rfl) (md_0 hA) ?_
      rw [md_s0 hA]
      refine gr_aload_n dX9_end_18 rfl ?_
      refine gr_getf dX9_end_19 cls_X9 0 (by decide) fl_X9_7 (md_0 hA) rfl ?_
      refine gr_ifeq 27 dX9_end_22 (by decide) (fun _ => ?_) (fun z => absurd rfl z)
      refine gr_iload_n dX9_end_27 rfl ?_
      refine gr_iconst (v := nI 1) dX9_end_28 rfl ?_
      refine gr_icmpneN 37 dX9_end_29 (by decide) (by omega) (by omega) (fun c_29 => ?_) (fun c_29 => ?_)
      · refine gr_iconst (v := nI 0) dX9_end_37 rfl ?_
        refine gr_istore_n dX9_end_38 (by decide) rfl ?_
        exact c_end_loop l E d h A hA s fa si sr pu va ro pa ba ma ti ta im sh un pv o ho ho4 _ ⟨by unfold cdP; rw [ltR_lt hj (by omega)]; rfl, by rw [ix_nI hj]; omega⟩ (7 * o + 7) 0 (by omega) (fun a ha => absurd ha (by omega))
      · refine gr_aload_n dX9_end_32 rfl ?_
        refine gr_callV dX9_end_33 (c_greatest l E d h A hA (va_up s 0 (nI 0)) fa si sr pu va ro pa ba ma ti ta im sh un pv o ho ho4) ysX9_greatest ⟨ml_X9_99, im_X9_greatest, sl_X9_greatest⟩ (md_0 hA) (show vwCl[9]? = some (RX9, TX9, _) from rfl) rfl rfl (Nat.le_of_ble_eq_true rfl) ⟨(Nat.le_refl _), (Nat.le_refl _)⟩ ⟨(Nat.le_refl _), (Nat.le_refl _)⟩ (fun r0 h1 hp9 => ?_)
        obtain ⟨rfl, q, rfl, hq⟩ := hp9
        exact gr_ireturn dX9_end_36 rfl (Nat.le_refl _) (Nat.le_refl _) (Or.inr ⟨by unfold cdP; rw [ltR_lt hj (by omega)]; rfl, rfl, Or.inr ⟨by rw [ix_nI hj]; exact c_29, q, rfl, hq⟩⟩)
    · refine gr_iconst (v := nI 1) dX9_end_10 rfl ?_
      refine gr_goto 15 dX9_end_11 (by decide) ?_
      refine gr_putf dX9_end_15 cls_X9 0 (by decide) fl_X9_7 rfl rfl rfl (Nat.le_of_ble_eq_true rfl) (md_0 hA) ?_
      rw [md_s0 hA]
      refine gr_aload_n dX9_end_18 rfl ?_
      refine gr_getf dX9_end_19 cls_X9 0 (by decide) fl_X9_7 (md_0 hA) rfl ?_
      refine gr_ifeq 27 dX9_end_22 (by decide) (fun z => absurd (show nI 1 = (0 : Int32) from z) (by decide)) (fun _ => ?_)
      refine gr_iconst (v := nI 0) dX9_end_25 rfl ?_
      have hc : cdP 2 (nI j) = 1 := by unfold cdP; rw [ltR_ge hj (by omega)]; rfl
      exact gr_ireturn dX9_end_26 rfl (Nat.le_refl _) (Nat.le_refl _) (Or.inl ⟨hc, rfl, _, rfl⟩)
