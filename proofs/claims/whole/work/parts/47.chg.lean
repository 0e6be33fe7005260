/-! The reference: factor, right, clear, value, singular -/
set_option maxHeartbeats 4000000 in
set_option maxRecDepth 100000 in
theorem c_mfactor (l : Launch) (E : ga_E) (d : Nat) (h : ga_H) (A : Nat → Nat) (hA : ga_inj A 16) (s : Nat → Int32) (fa si sr pu va ro pa ba ma ti ta im sh un : Nat → zp) (pv : Nat → Option Nat) (o : Nat) (ho : s 1 = nI o) (ho4 : o ≤ 4) (sh0 p : Int32) (x y : Int64) : ga_Ok l E (d + 1) mX9_factor [.ref (A 0), .int sh0, .int p, .long x, .long y] (mdH E h A s fa si sr pu va ro pa ba ma ti ta im sh pv un) 0 0 (fun r0 h' => cdF o sh0 p (zL y) ≠ 0 ∧ h' = mdH E h A (va_up s 0 (nI (cdF o sh0 p (zL y)))) fa si sr pu va ro pa ba ma ti ta im sh pv un ∧ (∃ r, r0 = some (.int r)) ∨ cdF o sh0 p (zL y) = 0 ∧ h' = mdH E h A (if zne (fa (7 * ix sh0 + ix p)) (zL x * zinv (zL y)) = true then va_up (va_up s 0 (nI 0)) 8 (nI 0) else va_up s 0 (nI 0)) (va_up fa (7 * ix sh0 + ix p) (zL x * zinv (zL y))) si sr pu va ro pa ba ma ti ta im sh pv un ∧ r0 = some (.int (bI (zne (fa (7 * ix sh0 + ix p)) (zL x * zinv (zL y)))))) := by
  refine ga_Ok.of 2 _ (by decide) rfl (Nat.le_of_ble_eq_true rfl) rfl ?_
  refine gr_aload_n dX9_factor_0 rfl ?_
  refine gr_iload_n dX9_factor_1 rfl ?_
  refine gr_iflt 13 dX9_factor_2 (by decide) (fun c_2 => ?_) (fun c_2 => ?_)
  · refine gr_iconst (v := nI 1) dX9_factor_13 rfl ?_
    refine gr_goto 47 dX9_factor_14 (by decide) ?_
    refine gr_putf dX9_factor_47 cls_X9 0 (by decide) fl_X9_7 rfl rfl rfl (Nat.le_of_ble_eq_true rfl) (md_0 hA) ?_
    rw [md_s0 hA]
    refine gr_aload_n dX9_factor_50 rfl ?_
    refine gr_getf dX9_factor_51 cls_X9 0 (by decide) fl_X9_7 (md_0 hA) rfl ?_
    refine gr_ifeq 59 dX9_factor_54 (by decide) (fun z => absurd (show nI 1 = (0 : Int32) from z) (by decide)) (fun _ => ?_)
    refine gr_iconst (v := nI 0) dX9_factor_57 rfl ?_
    have hc : cdF o sh0 p (zL y) = 1 := by unfold cdF; rw [ltR_neg c_2]; rfl
    exact gr_zreturn dX9_factor_58 rfl rfl (Nat.le_refl _) (Nat.le_refl _) (Or.inl ⟨by rw [hc]; decide, by rw [hc], _, rfl⟩)
  · obtain ⟨i, hi, rfl⟩ := nI_of c_2
    refine gr_iload_n dX9_factor_5 rfl ?_
    refine gr_aload_n dX9_factor_6 rfl ?_
    refine gr_getf dX9_factor_7 cls_X9 1 (by decide) fl_X9_75 (md_0 hA) rfl (gr_top (congrArg Value.int ho) ?_)
    refine gr_icmpleN 17 dX9_factor_10 (by decide) hi (by omega) (fun c_10 => ?_) (fun c_10 => ?_)
    · refine gr_iload_n dX9_factor_17 rfl ?_
      refine gr_iflt 27 dX9_factor_18 (by decide) (fun c_18 => ?_) (fun c_18 => ?_)
      · refine gr_iconst (v := nI 2) dX9_factor_27 rfl ?_
        refine gr_goto 47 dX9_factor_28 (by decide) ?_
        refine gr_putf dX9_factor_47 cls_X9 0 (by decide) fl_X9_7 rfl rfl rfl (Nat.le_of_ble_eq_true rfl) (md_0 hA) ?_
        rw [md_s0 hA]
        refine gr_aload_n dX9_factor_50 rfl ?_
        refine gr_getf dX9_factor_51 cls_X9 0 (by decide) fl_X9_7 (md_0 hA) rfl ?_
        refine gr_ifeq 59 dX9_factor_54 (by decide) (fun z => absurd (show nI 2 = (0 : Int32) from z) (by decide)) (fun _ => ?_)
        refine gr_iconst (v := nI 0) dX9_factor_57 rfl ?_
        have hc : cdF o (nI i) p (zL y) = 2 := by unfold cdF; rw [if_pos (ltR_lt hi (by omega)), ltR_neg c_18]; rfl
        exact gr_zreturn dX9_factor_58 rfl rfl (Nat.le_refl _) (Nat.le_refl _) (Or.inl ⟨by rw [hc]; decide, by rw [hc], _, rfl⟩)
      · obtain ⟨j, hj, rfl⟩ := nI_of c_18
        refine gr_iload_n dX9_factor_21 rfl ?_
        refine gr_bipush (v := nI 6) dX9_factor_22 (by decide) ?_
        refine gr_icmpleN 31 dX9_factor_24 (by decide) hj (by omega) (fun c_24 => ?_) (fun c_24 => ?_)
        · refine gr_lload dX9_factor_31 rfl ?_
          refine gr_ldc2 dX9_factor_33 kl_X9_78 ?_
          refine gr_lrem dX9_factor_36 (by decide) ?_
          refine gr_lconst (v := 0) dX9_factor_37 rfl ?_
          refine gr_lcmp dX9_factor_38 ?_
          refine gr_ifne 46 dX9_factor_39 (by decide) (fun c_39 => ?_) (fun c_39 => ?_)
          · refine gr_iconst (v := nI 0) dX9_factor_46 rfl ?_
            refine gr_putf dX9_factor_47 cls_X9 0 (by decide) fl_X9_7 rfl rfl rfl (Nat.le_of_ble_eq_true rfl) (md_0 hA) ?_
            rw [md_s0 hA]
            refine gr_aload_n dX9_factor_50 rfl ?_
            refine gr_getf dX9_factor_51 cls_X9 0 (by decide) fl_X9_7 (md_0 hA) rfl ?_
            refine gr_ifeq 59 dX9_factor_54 (by decide) (fun _ => ?_) (fun z => absurd rfl z)
            refine gr_lload_n dX9_factor_59 rfl ?_
            refine gr_callS dX9_factor_60 (c_modulo l E d _ x) ysX9_modulo ⟨ml_X9_95, sm_X9_modulo⟩ rfl rfl (Nat.le_of_ble_eq_true rfl) ⟨(Nat.le_refl _), (Nat.le_refl _)⟩ ⟨(Nat.le_refl _), (Nat.le_refl _)⟩ (fun r0 h1 hp9 => ?_)
            obtain ⟨e1, rfl⟩ := hp9
            subst h1
            refine gr_i2lN dX9_factor_63 (by have := zl (zL x); omega) ?_
            refine gr_lload dX9_factor_64 rfl ?_
            refine gr_callS dX9_factor_66 (c_modulo l E d _ y) ysX9_modulo ⟨ml_X9_95, sm_X9_modulo⟩ rfl rfl (Nat.le_of_ble_eq_true rfl) ⟨(Nat.le_refl _), (Nat.le_refl _)⟩ ⟨(Nat.le_refl _), (Nat.le_refl _)⟩ (fun r0 h1 hp9 => ?_)
            obtain ⟨e1, rfl⟩ := hp9
            subst h1
            refine gr_callS dX9_factor_69 (c_minv l E d _ (zL y)) ysX9_inverse ⟨ml_X9_91, sm_X9_inverse⟩ rfl rfl (Nat.le_of_ble_eq_true rfl) ⟨(Nat.le_refl _), (Nat.le_refl _)⟩ ⟨(Nat.le_refl _), (Nat.le_refl _)⟩ (fun r0 h1 hp9 => ?_)
            obtain ⟨e1, rfl⟩ := hp9
            subst h1
            refine gr_i2lN dX9_factor_72 (by have := zl (zinv (zL y)); omega) ?_
            refine gr_lmulN dX9_factor_73 ?_
            refine gr_remL (x := zL x * zinv (zL y)) dX9_factor_74 kl_X9_78 dX9_factor_77 (by have := zmul_ll (zL x) (zinv (zL y)); omega) (zo_mm _ _) ?_
            refine gr_l2iN dX9_factor_78 ?_
            refine gr_istore dX9_factor_79 (by decide) rfl ?_
            refine gr_aload_n dX9_factor_81 rfl ?_
            refine gr_getf dX9_factor_82 cls_X9 2 (by decide) fl_X9_13 (md_0 hA) rfl ?_
            refine gr_bipush (v := nI 7) dX9_factor_85 (by decide) ?_
            refine gr_iload_n dX9_factor_87 rfl ?_
            refine gr_imulN dX9_factor_88 ?_
            refine gr_iload_n dX9_factor_89 rfl ?_
            refine gr_iaddN dX9_factor_90 ?_
            refine gr_ialoadF dX9_factor_91 (md_1 hA) (by omega) (by decide) ?_
            refine gr_iload dX9_factor_92 rfl ?_
            refine gr_icmpeqN 101 dX9_factor_94 (by decide) (by have := zl (fa (7 * i + j)); omega) (by have := zl (zL x * zinv (zL y)); omega) (fun c_e => ?_) (fun c_e => ?_)
            · refine gr_iconst (v := nI 0) dX9_factor_101 rfl ?_
              refine gr_istore dX9_factor_102 (by decide) rfl ?_
              refine gr_aload_n dX9_factor_104 rfl ?_
              refine gr_getf dX9_factor_105 cls_X9 2 (by decide) fl_X9_13 (md_0 hA) rfl ?_
              refine gr_bipush (v := nI 7) dX9_factor_108 (by decide) ?_
              refine gr_iload_n dX9_factor_110 rfl ?_
              refine gr_imulN dX9_factor_111 ?_
              refine gr_iload_n dX9_factor_112 rfl ?_
              refine gr_iaddN dX9_factor_113 ?_
              refine gr_iload dX9_factor_114 rfl ?_
              refine gr_iastoreF dX9_factor_116 (md_1 hA) (by omega) (by decide) ?_
              rw [md_w1 hA]
              refine gr_iload dX9_factor_117 rfl ?_
              first
                | refine gr_ifeqN 127 dX9_factor_119 (by decide) (by omega) (fun c_i => ?_) (fun c_i => ?_)
              · refine gr_iload dX9_factor_127 rfl ?_
                first
                  | exact absurd c_i (by decide)
                  | exact absurd rfl c_i
                  | exact gr_zreturn dX9_factor_129 rfl rfl (Nat.le_refl _) (Nat.le_refl _) (Or.inr ⟨by unfold cdF; rw [if_pos (ltR_lt hi (by omega)), if_pos (ltR_lt hj (by omega)), if_neg (fun z => c_39 ((lg_cmp_eq _ _).mpr ((zL_0 y).mpr z)))], by rw [ix_nI hi, ix_nI hj, zne_f c_e] <;> rfl, by rw [ix_nI hi, ix_nI hj, zne_f c_e] <;> rfl⟩)
                  | exact gr_zreturn dX9_factor_129 rfl rfl (Nat.le_refl _) (Nat.le_refl _) (Or.inr ⟨by unfold cdF; rw [if_pos (ltR_lt hi (by omega)), if_pos (ltR_lt hj (by omega)), if_neg (fun z => c_39 ((lg_cmp_eq _ _).mpr ((zL_0 y).mpr z)))], by rw [ix_nI hi, ix_nI hj, zne_t c_e] <;> rfl, by rw [ix_nI hi, ix_nI hj, zne_t c_e] <;> rfl⟩)
              · refine gr_aload_n dX9_factor_122 rfl ?_
                refine gr_iconst (v := nI 0) dX9_factor_123 rfl ?_
                refine gr_putf dX9_factor_124 cls_X9 8 (by decide) fl_X9_32 rfl rfl rfl (Nat.le_of_ble_eq_true rfl) (md_0 hA) ?_
                rw [md_s8 hA]
                refine gr_iload dX9_factor_127 rfl ?_
                first
                  | exact absurd c_i (by decide)
                  | exact absurd rfl c_i
                  | exact gr_zreturn dX9_factor_129 rfl rfl (Nat.le_refl _) (Nat.le_refl _) (Or.inr ⟨by unfold cdF; rw [if_pos (ltR_lt hi (by omega)), if_pos (ltR_lt hj (by omega)), if_neg (fun z => c_39 ((lg_cmp_eq _ _).mpr ((zL_0 y).mpr z)))], by rw [ix_nI hi, ix_nI hj, zne_f c_e] <;> rfl, by rw [ix_nI hi, ix_nI hj, zne_f c_e] <;> rfl⟩)
                  | exact gr_zreturn dX9_factor_129 rfl rfl (Nat.le_refl _) (Nat.le_refl _) (Or.inr ⟨by unfold cdF; rw [if_pos (ltR_lt hi (by omega)), if_pos (ltR_lt hj (by omega)), if_neg (fun z => c_39 ((lg_cmp_eq _ _).mpr ((zL_0 y).mpr z)))], by rw [ix_nI hi, ix_nI hj, zne_t c_e] <;> rfl, by rw [ix_nI hi, ix_nI hj, zne_t c_e] <;> rfl⟩)
            · refine gr_iconst (v := nI 1) dX9_factor_97 rfl ?_
              refine gr_goto 102 dX9_factor_98 (by decide) ?_
              refine gr_istore dX9_factor_102 (by decide) rfl ?_
              refine gr_aload_n dX9_factor_104 rfl ?_
              refine gr_getf dX9_factor_105 cls_X9 2 (by decide) fl_X9_13 (md_0 hA) rfl ?_
              refine gr_bipush (v := nI 7) dX9_factor_108 (by decide) ?_
              refine gr_iload_n dX9_factor_110 rfl ?_
              refine gr_imulN dX9_factor_111 ?_
              refine gr_iload_n dX9_factor_112 rfl ?_
              refine gr_iaddN dX9_factor_113 ?_
              refine gr_iload dX9_factor_114 rfl ?_
              refine gr_iastoreF dX9_factor_116 (md_1 hA) (by omega) (by decide) ?_
              rw [md_w1 hA]
              refine gr_iload dX9_factor_117 rfl ?_
              first
                | refine gr_ifeqN 127 dX9_factor_119 (by decide) (by omega) (fun c_i => ?_) (fun c_i => ?_)
              · refine gr_iload dX9_factor_127 rfl ?_
                first
                  | exact absurd c_i (by decide)
                  | exact absurd rfl c_i
                  | exact gr_zreturn dX9_factor_129 rfl rfl (Nat.le_refl _) (Nat.le_refl _) (Or.inr ⟨by unfold cdF; rw [if_pos (ltR_lt hi (by omega)), if_pos (ltR_lt hj (by omega)), if_neg (fun z => c_39 ((lg_cmp_eq _ _).mpr ((zL_0 y).mpr z)))], by rw [ix_nI hi, ix_nI hj, zne_f c_e] <;> rfl, by rw [ix_nI hi, ix_nI hj, zne_f c_e] <;> rfl⟩)
                  | exact gr_zreturn dX9_factor_129 rfl rfl (Nat.le_refl _) (Nat.le_refl _) (Or.inr ⟨by unfold cdF; rw [if_pos (ltR_lt hi (by omega)), if_pos (ltR_lt hj (by omega)), if_neg (fun z => c_39 ((lg_cmp_eq _ _).mpr ((zL_0 y).mpr z)))], by rw [ix_nI hi, ix_nI hj, zne_t c_e] <;> rfl, by rw [ix_nI hi, ix_nI hj, zne_t c_e] <;> rfl⟩)
              · refine gr_aload_n dX9_factor_122 rfl ?_
                refine gr_iconst (v := nI 0) dX9_factor_123 rfl ?_
                refine gr_putf dX9_factor_124 cls_X9 8 (by decide) fl_X9_32 rfl rfl rfl (Nat.le_of_ble_eq_true rfl) (md_0 hA) ?_
                rw [md_s8 hA]
                refine gr_iload dX9_factor_127 rfl ?_
                first
                  | exact absurd c_i (by decide)
                  | exact absurd rfl c_i
                  | exact gr_zreturn dX9_factor_129 rfl rfl (Nat.le_refl _) (Nat.le_refl _) (Or.inr ⟨by unfold cdF; rw [if_pos (ltR_lt hi (by omega)), if_pos (ltR_lt hj (by omega)), if_neg (fun z => c_39 ((lg_cmp_eq _ _).mpr ((zL_0 y).mpr z)))], by rw [ix_nI hi, ix_nI hj, zne_f c_e] <;> rfl, by rw [ix_nI hi, ix_nI hj, zne_f c_e] <;> rfl⟩)
                  | exact gr_zreturn dX9_factor_129 rfl rfl (Nat.le_refl _) (Nat.le_refl _) (Or.inr ⟨by unfold cdF; rw [if_pos (ltR_lt hi (by omega)), if_pos (ltR_lt hj (by omega)), if_neg (fun z => c_39 ((lg_cmp_eq _ _).mpr ((zL_0 y).mpr z)))], by rw [ix_nI hi, ix_nI hj, zne_t c_e] <;> rfl, by rw [ix_nI hi, ix_nI hj, zne_t c_e] <;> rfl⟩)
          · refine gr_iconst (v := nI 3) dX9_factor_42 rfl ?_
            refine gr_goto 47 dX9_factor_43 (by decide) ?_
            refine gr_putf dX9_factor_47 cls_X9 0 (by decide) fl_X9_7 rfl rfl rfl (Nat.le_of_ble_eq_true rfl) (md_0 hA) ?_
            rw [md_s0 hA]
            refine gr_aload_n dX9_factor_50 rfl ?_
            refine gr_getf dX9_factor_51 cls_X9 0 (by decide) fl_X9_7 (md_0 hA) rfl ?_
            refine gr_ifeq 59 dX9_factor_54 (by decide) (fun z => absurd (show nI 3 = (0 : Int32) from z) (by decide)) (fun _ => ?_)
            refine gr_iconst (v := nI 0) dX9_factor_57 rfl ?_
            have hc : cdF o (nI i) (nI j) (zL y) = 3 := by unfold cdF; rw [if_pos (ltR_lt hi (by omega)), if_pos (ltR_lt hj (by omega)), if_pos ((zL_0 y).mp ((lg_cmp_eq _ _).mp (Classical.not_not.mp (fun z => z c_39))))]
            exact gr_zreturn dX9_factor_58 rfl rfl (Nat.le_refl _) (Nat.le_refl _) (Or.inl ⟨by rw [hc]; decide, by rw [hc], _, rfl⟩)
        · refine gr_iconst (v := nI 2) dX9_factor_27 rfl ?_
          refine gr_goto 47 dX9_factor_28 (by decide) ?_
          refine gr_putf dX9_factor_47 cls_X9 0 (by decide) fl_X9_7 rfl rfl rfl (Nat.le_of_ble_eq_true rfl) (md_0 hA) ?_
          rw [md_s0 hA]
          refine gr_aload_n dX9_factor_50 rfl ?_
          refine gr_getf dX9_factor_51 cls_X9 0 (by decide) fl_X9_7 (md_0 hA) rfl ?_
          refine gr_ifeq 59 dX9_factor_54 (by decide) (fun z => absurd (show nI 2 = (0 : Int32) from z) (by decide)) (fun _ => ?_)
          refine gr_iconst (v := nI 0) dX9_factor_57 rfl ?_
          have hc : cdF o (nI i) (nI j) (zL y) = 2 := by unfold cdF; rw [if_pos (ltR_lt hi (by omega)), ltR_ge hj (by omega)]; rfl
          exact gr_zreturn dX9_factor_58 rfl rfl (Nat.le_refl _) (Nat.le_refl _) (Or.inl ⟨by rw [hc]; decide, by rw [hc], _, rfl⟩)
    · refine gr_iconst (v := nI 1) dX9_factor_13 rfl ?_
      refine gr_goto 47 dX9_factor_14 (by decide) ?_
      refine gr_putf dX9_factor_47 cls_X9 0 (by decide) fl_X9_7 rfl rfl rfl (Nat.le_of_ble_eq_true rfl) (md_0 hA) ?_
      rw [md_s0 hA]
      refine gr_aload_n dX9_factor_50 rfl ?_
      refine gr_getf dX9_factor_51 cls_X9 0 (by decide) fl_X9_7 (md_0 hA) rfl ?_
      refine gr_ifeq 59 dX9_factor_54 (by decide) (fun z => absurd (show nI 1 = (0 : Int32) from z) (by decide)) (fun _ => ?_)
      refine gr_iconst (v := nI 0) dX9_factor_57 rfl ?_
      have hc : cdF o (nI i) p (zL y) = 1 := by unfold cdF; rw [ltR_ge hi (by omega)]; rfl
      exact gr_zreturn dX9_factor_58 rfl rfl (Nat.le_refl _) (Nat.le_refl _) (Or.inl ⟨by rw [hc]; decide, by rw [hc], _, rfl⟩)

set_option maxHeartbeats 4000000 in
set_option maxRecDepth 100000 in
theorem c_mright (l : Launch) (E : ga_E) (d : Nat) (h : ga_H) (A : Nat → Nat) (hA : ga_inj A 16) (s : Nat → Int32) (fa si sr pu va ro pa ba ma ti ta im sh un : Nat → zp) (pv : Nat → Option Nat) (p : Int32) (x y : Int64) : ga_Ok l E (d + 1) mX9_right [.ref (A 0), .int p, .long x, .long y] (mdH E h A s fa si sr pu va ro pa ba ma ti ta im sh pv un) 0 0 (fun r0 h' => cdR p (zL y) ≠ 0 ∧ h' = mdH E h A (va_up s 0 (nI (cdR p (zL y)))) fa si sr pu va ro pa ba ma ti ta im sh pv un ∧ (∃ r, r0 = some (.int r)) ∨ cdR p (zL y) = 0 ∧ h' = mdH E h A (if zne (si (ix p)) (zL x * zinv (zL y)) = true then va_up (va_up s 0 (nI 0)) 8 (nI 0) else va_up s 0 (nI 0)) fa (va_up si (ix p) (zL x * zinv (zL y))) sr pu va ro pa ba ma ti ta im sh pv un ∧ r0 = some (.int (bI (zne (si (ix p)) (zL x * zinv (zL y)))))) := by
  refine ga_Ok.of 2 _ (by decide) rfl (Nat.le_of_ble_eq_true rfl) rfl ?_
  refine gr_aload_n dX9_right_0 rfl ?_
  refine gr_iload_n dX9_right_1 rfl ?_
  refine gr_iflt 11 dX9_right_2 (by decide) (fun c_2 => ?_) (fun c_2 => ?_)
  · refine gr_iconst (v := nI 1) dX9_right_11 rfl ?_
    refine gr_goto 31 dX9_right_12 (by decide) ?_
    refine gr_putf dX9_right_31 cls_X9 0 (by decide) fl_X9_7 rfl rfl rfl (Nat.le_of_ble_eq_true rfl) (md_0 hA) ?_
    rw [md_s0 hA]
    refine gr_aload_n dX9_right_34 rfl ?_
    refine gr_getf dX9_right_35 cls_X9 0 (by decide) fl_X9_7 (md_0 hA) rfl ?_
    refine gr_ifeq 43 dX9_right_38 (by decide) (fun z => absurd (show nI 1 = (0 : Int32) from z) (by decide)) (fun _ => ?_)
    refine gr_iconst (v := nI 0) dX9_right_41 rfl ?_
    have hc : cdR p (zL y) = 1 := by unfold cdR; rw [ltR_neg c_2]; rfl
    exact gr_zreturn dX9_right_42 rfl rfl (Nat.le_refl _) (Nat.le_refl _) (Or.inl ⟨by rw [hc]; decide, by rw [hc], _, rfl⟩)
  · obtain ⟨j, hj, rfl⟩ := nI_of c_2
    refine gr_iload_n dX9_right_5 rfl ?_
    refine gr_bipush (v := nI 10) dX9_right_6 (by decide) ?_
    refine gr_icmpleN 15 dX9_right_8 (by decide) hj (by omega) (fun c_8 => ?_) (fun c_8 => ?_)
    · refine gr_lload dX9_right_15 rfl ?_
      refine gr_ldc2 dX9_right_17 kl_X9_78 ?_
      refine gr_lrem dX9_right_20 (by decide) ?_
      refine gr_lconst (v := 0) dX9_right_21 rfl ?_
      refine gr_lcmp dX9_right_22 ?_
      refine gr_ifne 30 dX9_right_23 (by decide) (fun c_39 => ?_) (fun c_39 => ?_)
      · refine gr_iconst (v := nI 0) dX9_right_30 rfl ?_
        refine gr_putf dX9_right_31 cls_X9 0 (by decide) fl_X9_7 rfl rfl rfl (Nat.le_of_ble_eq_true rfl) (md_0 hA) ?_
        rw [md_s0 hA]
        refine gr_aload_n dX9_right_34 rfl ?_
        refine gr_getf dX9_right_35 cls_X9 0 (by decide) fl_X9_7 (md_0 hA) rfl ?_
        refine gr_ifeq 43 dX9_right_38 (by decide) (fun _ => ?_) (fun z => absurd rfl z)
        refine gr_lload_n dX9_right_43 rfl ?_
        refine gr_callS dX9_right_44 (c_modulo l E d _ x) ysX9_modulo ⟨ml_X9_95, sm_X9_modulo⟩ rfl rfl (Nat.le_of_ble_eq_true rfl) ⟨(Nat.le_refl _), (Nat.le_refl _)⟩ ⟨(Nat.le_refl _), (Nat.le_refl _)⟩ (fun r0 h1 hp9 => ?_)
        obtain ⟨e1, rfl⟩ := hp9
        subst h1
        refine gr_i2lN dX9_right_47 (by have := zl (zL x); omega) ?_
        refine gr_lload dX9_right_48 rfl ?_
        refine gr_callS dX9_right_50 (c_modulo l E d _ y) ysX9_modulo ⟨ml_X9_95, sm_X9_modulo⟩ rfl rfl (Nat.le_of_ble_eq_true rfl) ⟨(Nat.le_refl _), (Nat.le_refl _)⟩ ⟨(Nat.le_refl _), (Nat.le_refl _)⟩ (fun r0 h1 hp9 => ?_)
        obtain ⟨e1, rfl⟩ := hp9
        subst h1
        refine gr_callS dX9_right_53 (c_minv l E d _ (zL y)) ysX9_inverse ⟨ml_X9_91, sm_X9_inverse⟩ rfl rfl (Nat.le_of_ble_eq_true rfl) ⟨(Nat.le_refl _), (Nat.le_refl _)⟩ ⟨(Nat.le_refl _), (Nat.le_refl _)⟩ (fun r0 h1 hp9 => ?_)
        obtain ⟨e1, rfl⟩ := hp9
        subst h1
        refine gr_i2lN dX9_right_56 (by have := zl (zinv (zL y)); omega) ?_
        refine gr_lmulN dX9_right_57 ?_
        refine gr_remL (x := zL x * zinv (zL y)) dX9_right_58 kl_X9_78 dX9_right_61 (by have := zmul_ll (zL x) (zinv (zL y)); omega) (zo_mm _ _) ?_
        refine gr_l2iN dX9_right_62 ?_
        refine gr_istore dX9_right_63 (by decide) rfl ?_
        refine gr_aload_n dX9_right_65 rfl ?_
        refine gr_getf dX9_right_66 cls_X9 3 (by decide) fl_X9_17 (md_0 hA) rfl ?_
        refine gr_iload_n dX9_right_69 rfl ?_
        refine gr_ialoadF dX9_right_70 (md_2 hA) (by omega) (by decide) ?_
        refine gr_iload dX9_right_71 rfl ?_
        refine gr_icmpeqN 80 dX9_right_73 (by decide) (by have := zl (si (j)); omega) (by have := zl (zL x * zinv (zL y)); omega) (fun c_e => ?_) (fun c_e => ?_)
        · refine gr_iconst (v := nI 0) dX9_right_80 rfl ?_
          refine gr_istore dX9_right_81 (by decide) rfl ?_
          refine gr_aload_n dX9_right_83 rfl ?_
          refine gr_getf dX9_right_84 cls_X9 3 (by decide) fl_X9_17 (md_0 hA) rfl ?_
          refine gr_iload_n dX9_right_87 rfl ?_
          refine gr_iload dX9_right_88 rfl ?_
          refine gr_iastoreF dX9_right_90 (md_2 hA) (by omega) (by decide) ?_
          rw [md_w2 hA]
          refine gr_iload dX9_right_91 rfl ?_
          first
            | refine gr_ifeqN 101 dX9_right_93 (by decide) (by omega) (fun c_i => ?_) (fun c_i => ?_)
          · refine gr_iload dX9_right_101 rfl ?_
            first
              | exact absurd c_i (by decide)
              | exact absurd rfl c_i
              | exact gr_zreturn dX9_right_103 rfl rfl (Nat.le_refl _) (Nat.le_refl _) (Or.inr ⟨by unfold cdR; rw [if_pos (ltR_lt hj (by omega)), if_neg (fun z => c_39 ((lg_cmp_eq _ _).mpr ((zL_0 y).mpr z)))], by rw [ix_nI hj, zne_f c_e] <;> rfl, by rw [ix_nI hj, zne_f c_e] <;> rfl⟩)
              | exact gr_zreturn dX9_right_103 rfl rfl (Nat.le_refl _) (Nat.le_refl _) (Or.inr ⟨by unfold cdR; rw [if_pos (ltR_lt hj (by omega)), if_neg (fun z => c_39 ((lg_cmp_eq _ _).mpr ((zL_0 y).mpr z)))], by rw [ix_nI hj, zne_t c_e] <;> rfl, by rw [ix_nI hj, zne_t c_e] <;> rfl⟩)
          · refine gr_aload_n dX9_right_96 rfl ?_
            refine gr_iconst (v := nI 0) dX9_right_97 rfl ?_
            refine gr_putf dX9_right_98 cls_X9 8 (by decide) fl_X9_32 rfl rfl rfl (Nat.le_of_ble_eq_true rfl) (md_0 hA) ?_
            rw [md_s8 hA]
            refine gr_iload dX9_right_101 rfl ?_
            first
              | exact absurd c_i (by decide)
              | exact absurd rfl c_i
              | exact gr_zreturn dX9_right_103 rfl rfl (Nat.le_refl _) (Nat.le_refl _) (Or.inr ⟨by unfold cdR; rw [if_pos (ltR_lt hj (by omega)), if_neg (fun z => c_39 ((lg_cmp_eq _ _).mpr ((zL_0 y).mpr z)))], by rw [ix_nI hj, zne_f c_e] <;> rfl, by rw [ix_nI hj, zne_f c_e] <;> rfl⟩)
              | exact gr_zreturn dX9_right_103 rfl rfl (Nat.le_refl _) (Nat.le_refl _) (Or.inr ⟨by unfold cdR; rw [if_pos (ltR_lt hj (by omega)), if_neg (fun z => c_39 ((lg_cmp_eq _ _).mpr ((zL_0 y).mpr z)))], by rw [ix_nI hj, zne_t c_e] <;> rfl, by rw [ix_nI hj, zne_t c_e] <;> rfl⟩)
        · refine gr_iconst (v := nI 1) dX9_right_76 rfl ?_
          refine gr_goto 81 dX9_right_77 (by decide) ?_
          refine gr_istore dX9_right_81 (by decide) rfl ?_
          refine gr_aload_n dX9_right_83 rfl ?_
          refine gr_getf dX9_right_84 cls_X9 3 (by decide) fl_X9_17 (md_0 hA) rfl ?_
          refine gr_iload_n dX9_right_87 rfl ?_
          refine gr_iload dX9_right_88 rfl ?_
          refine gr_iastoreF dX9_right_90 (md_2 hA) (by omega) (by decide) ?_
          rw [md_w2 hA]
          refine gr_iload dX9_right_91 rfl ?_
          first
            | refine gr_ifeqN 101 dX9_right_93 (by decide) (by omega) (fun c_i => ?_) (fun c_i => ?_)
          · refine gr_iload dX9_right_101 rfl ?_
            first
              | exact absurd c_i (by decide)
              | exact absurd rfl c_i
              | exact gr_zreturn dX9_right_103 rfl rfl (Nat.le_refl _) (Nat.le_refl _) (Or.inr ⟨by unfold cdR; rw [if_pos (ltR_lt hj (by omega)), if_neg (fun z => c_39 ((lg_cmp_eq _ _).mpr ((zL_0 y).mpr z)))], by rw [ix_nI hj, zne_f c_e] <;> rfl, by rw [ix_nI hj, zne_f c_e] <;> rfl⟩)
              | exact gr_zreturn dX9_right_103 rfl rfl (Nat.le_refl _) (Nat.le_refl _) (Or.inr ⟨by unfold cdR; rw [if_pos (ltR_lt hj (by omega)), if_neg (fun z => c_39 ((lg_cmp_eq _ _).mpr ((zL_0 y).mpr z)))], by rw [ix_nI hj, zne_t c_e] <;> rfl, by rw [ix_nI hj, zne_t c_e] <;> rfl⟩)
          · refine gr_aload_n dX9_right_96 rfl ?_
            refine gr_iconst (v := nI 0) dX9_right_97 rfl ?_
            refine gr_putf dX9_right_98 cls_X9 8 (by decide) fl_X9_32 rfl rfl rfl (Nat.le_of_ble_eq_true rfl) (md_0 hA) ?_
            rw [md_s8 hA]
            refine gr_iload dX9_right_101 rfl ?_
            first
              | exact absurd c_i (by decide)
              | exact absurd rfl c_i
              | exact gr_zreturn dX9_right_103 rfl rfl (Nat.le_refl _) (Nat.le_refl _) (Or.inr ⟨by unfold cdR; rw [if_pos (ltR_lt hj (by omega)), if_neg (fun z => c_39 ((lg_cmp_eq _ _).mpr ((zL_0 y).mpr z)))], by rw [ix_nI hj, zne_f c_e] <;> rfl, by rw [ix_nI hj, zne_f c_e] <;> rfl⟩)
              | exact gr_zreturn dX9_right_103 rfl rfl (Nat.le_refl _) (Nat.le_refl _) (Or.inr ⟨by unfold cdR; rw [if_pos (ltR_lt hj (by omega)), if_neg (fun z => c_39 ((lg_cmp_eq _ _).mpr ((zL_0 y).mpr z)))], by rw [ix_nI hj, zne_t c_e] <;> rfl, by rw [ix_nI hj, zne_t c_e] <;> rfl⟩)
      · refine gr_iconst (v := nI 2) dX9_right_26 rfl ?_
        refine gr_goto 31 dX9_right_27 (by decide) ?_
        refine gr_putf dX9_right_31 cls_X9 0 (by decide) fl_X9_7 rfl rfl rfl (Nat.le_of_ble_eq_true rfl) (md_0 hA) ?_
        rw [md_s0 hA]
        refine gr_aload_n dX9_right_34 rfl ?_
        refine gr_getf dX9_right_35 cls_X9 0 (by decide) fl_X9_7 (md_0 hA) rfl ?_
        refine gr_ifeq 43 dX9_right_38 (by decide) (fun z => absurd (show nI 2 = (0 : Int32) from z) (by decide)) (fun _ => ?_)
        refine gr_iconst (v := nI 0) dX9_right_41 rfl ?_
        have hc : cdR (nI j) (zL y) = 2 := by unfold cdR; rw [if_pos (ltR_lt hj (by omega)), if_pos ((zL_0 y).mp ((lg_cmp_eq _ _).mp (Classical.not_not.mp (fun z => z c_39))))]
        exact gr_zreturn dX9_right_42 rfl rfl (Nat.le_refl _) (Nat.le_refl _) (Or.inl ⟨by rw [hc]; decide, by rw [hc], _, rfl⟩)
    · refine gr_iconst (v := nI 1) dX9_right_11 rfl ?_
      refine gr_goto 31 dX9_right_12 (by decide) ?_
      refine gr_putf dX9_right_31 cls_X9 0 (by decide) fl_X9_7 rfl rfl rfl (Nat.le_of_ble_eq_true rfl) (md_0 hA) ?_
      rw [md_s0 hA]
      refine gr_aload_n dX9_right_34 rfl ?_
      refine gr_getf dX9_right_35 cls_X9 0 (by decide) fl_X9_7 (md_0 hA) rfl ?_
      refine gr_ifeq 43 dX9_right_38 (by decide) (fun z => absurd (show nI 1 = (0 : Int32) from z) (by decide)) (fun _ => ?_)
      refine gr_iconst (v := nI 0) dX9_right_41 rfl ?_
      have hc : cdR (nI j) (zL y) = 1 := by unfold cdR; rw [ltR_ge hj (by omega)]; rfl
      exact gr_zreturn dX9_right_42 rfl rfl (Nat.le_refl _) (Nat.le_refl _) (Or.inl ⟨by rw [hc]; decide, by rw [hc], _, rfl⟩)

set_option maxHeartbeats 4000000 in
set_option maxRecDepth 100000 in
theorem c_cl_pu (l : Launch) (E : ga_E) (d : Nat) (h : ga_H) (A : Nat → Nat) (hA : ga_inj A 16) (s : Nat → Int32) (fa si sr pu va ro pa ba ma ti ta im sh un : Nat → zp) (pv : Nat → Option Nat) (fa1 si1 : Nat → zp) (h1 : ∀ j, j < 35 → fa1 j = 0) (h2 : ∀ j, j < 11 → si1 j = 0) : ∀ (g b0 : Nat) (w : Nat → zp), b0 + g = 13 → (∀ j, j < b0 → w j = 0) → ga_G l E mX9_clear (ga_Rm d 0 0) (ga_Z E (fun r0 h' => ∃ fa' si' pu', (∀ j, j < 35 → fa' j = 0) ∧ (∀ j, j < 11 → si' j = 0) ∧ (∀ j, j < 13 → pu' j = 0) ∧ h' = mdH E h A (va_up (va_up (va_up s 0 (nI 0)) 8 (nI 0)) 5 (nI 0)) fa' si' sr pu' va ro pa ba ma ti ta im sh pv un ∧ r0 = none) 0 0) 59 [some (.ref (A 0)), some (.int (nI b0))] [] (mdH E h A (va_up (va_up (va_up s 0 (nI 0)) 8 (nI 0)) 5 (nI 0)) fa1 si1 sr w va ro pa ba ma ti ta im sh pv un) 0 0 := by
  intro g
  induction g with
  | zero =>
    intro b0 w hb0 hlt
    refine gr_iload_n dX9_clear_59 rfl (gr_bipush (v := nI 13) dX9_clear_60 (by decide) ?_)
    refine gr_icmpgeN 78 dX9_clear_62 (by decide) (by omega) (by omega) (fun _ => ?_) (fun z => absurd z (by omega))
    exact gr_return dX9_clear_78 rfl (Nat.le_refl _) (Nat.le_refl _) ⟨fa1, si1, w, h1, h2, fun j hj => hlt j (by omega), rfl, rfl⟩
  | succ g ih =>
    intro b0 w hb0 hlt
    refine gr_iload_n dX9_clear_59 rfl (gr_bipush (v := nI 13) dX9_clear_60 (by decide) ?_)
    refine gr_icmpgeN 78 dX9_clear_62 (by decide) (by omega) (by omega) (fun z => absurd z (by omega)) (fun _ => ?_)
    refine gr_aload_n dX9_clear_65 rfl ?_
    refine gr_getf dX9_clear_66 cls_X9 6 (by decide) fl_X9_26 (md_0 hA) rfl ?_
    refine gr_iload_n dX9_clear_69 rfl ?_
    refine gr_iconst (v := nI (0 : zp).val) dX9_clear_70 rfl ?_
    refine gr_iastoreF (x := 0) dX9_clear_71 (md_4 hA) (by omega) (by decide) ?_
    rw [md_w4 hA]
    refine gr_iinc (v := nI (_ + 1)) dX9_clear_72 rfl (nI_1 _) (by decide) rfl ?_
    refine gr_goto 59 dX9_clear_75 (by decide) ?_
    refine ih (b0 + 1) _ (by omega) (fun j hj => ?_)
    by_cases e : j = b0
    · rw [e, va_us]
    · rw [va_un e]; exact hlt j (by omega)

set_option maxHeartbeats 4000000 in
set_option maxRecDepth 100000 in
theorem c_cl_si (l : Launch) (E : ga_E) (d : Nat) (h : ga_H) (A : Nat → Nat) (hA : ga_inj A 16) (s : Nat → Int32) (fa si sr pu va ro pa ba ma ti ta im sh un : Nat → zp) (pv : Nat → Option Nat) (fa1 : Nat → zp) (h1 : ∀ j, j < 35 → fa1 j = 0) : ∀ (g b0 : Nat) (w : Nat → zp), b0 + g = 11 → (∀ j, j < b0 → w j = 0) → ga_G l E mX9_clear (ga_Rm d 0 0) (ga_Z E (fun r0 h' => ∃ fa' si' pu', (∀ j, j < 35 → fa' j = 0) ∧ (∀ j, j < 11 → si' j = 0) ∧ (∀ j, j < 13 → pu' j = 0) ∧ h' = mdH E h A (va_up (va_up (va_up s 0 (nI 0)) 8 (nI 0)) 5 (nI 0)) fa' si' sr pu' va ro pa ba ma ti ta im sh pv un ∧ r0 = none) 0 0) 38 [some (.ref (A 0)), some (.int (nI b0))] [] (mdH E h A (va_up (va_up (va_up s 0 (nI 0)) 8 (nI 0)) 5 (nI 0)) fa1 w sr pu va ro pa ba ma ti ta im sh pv un) 0 0 := by
  intro g
  induction g with
  | zero =>
    intro b0 w hb0 hlt
    refine gr_iload_n dX9_clear_38 rfl (gr_bipush (v := nI 11) dX9_clear_39 (by decide) ?_)
    refine gr_icmpgeN 57 dX9_clear_41 (by decide) (by omega) (by omega) (fun _ => ?_) (fun z => absurd z (by omega))
    refine gr_iconst (v := nI 0) dX9_clear_57 rfl (gr_istore_n dX9_clear_58 (by decide) rfl ?_)
    exact c_cl_pu l E d h A hA s fa si sr pu va ro pa ba ma ti ta im sh un pv fa1 w h1 (fun j hj => hlt j (by omega)) 13 0 pu (by omega) (fun j hj => absurd hj (by omega))
  | succ g ih =>
    intro b0 w hb0 hlt
    refine gr_iload_n dX9_clear_38 rfl (gr_bipush (v := nI 11) dX9_clear_39 (by decide) ?_)
    refine gr_icmpgeN 57 dX9_clear_41 (by decide) (by omega) (by omega) (fun z => absurd z (by omega)) (fun _ => ?_)
    refine gr_aload_n dX9_clear_44 rfl ?_
    refine gr_getf dX9_clear_45 cls_X9 3 (by decide) fl_X9_17 (md_0 hA) rfl ?_
    refine gr_iload_n dX9_clear_48 rfl ?_
    refine gr_iconst (v := nI (0 : zp).val) dX9_clear_49 rfl ?_
    refine gr_iastoreF (x := 0) dX9_clear_50 (md_2 hA) (by omega) (by decide) ?_
    rw [md_w2 hA]
    refine gr_iinc (v := nI (_ + 1)) dX9_clear_51 rfl (nI_1 _) (by decide) rfl ?_
    refine gr_goto 38 dX9_clear_54 (by decide) ?_
    refine ih (b0 + 1) _ (by omega) (fun j hj => ?_)
    by_cases e : j = b0
    · rw [e, va_us]
    · rw [va_un e]; exact hlt j (by omega)

set_option maxHeartbeats 4000000 in
set_option maxRecDepth 100000 in
theorem c_cl_fa (l : Launch) (E : ga_E) (d : Nat) (h : ga_H) (A : Nat → Nat) (hA : ga_inj A 16) (s : Nat → Int32) (fa si sr pu va ro pa ba ma ti ta im sh un : Nat → zp) (pv : Nat → Option Nat) : ∀ (g b0 : Nat) (w : Nat → zp), b0 + g = 35 → (∀ j, j < b0 → w j = 0) → ga_G l E mX9_clear (ga_Rm d 0 0) (ga_Z E (fun r0 h' => ∃ fa' si' pu', (∀ j, j < 35 → fa' j = 0) ∧ (∀ j, j < 11 → si' j = 0) ∧ (∀ j, j < 13 → pu' j = 0) ∧ h' = mdH E h A (va_up (va_up (va_up s 0 (nI 0)) 8 (nI 0)) 5 (nI 0)) fa' si' sr pu' va ro pa ba ma ti ta im sh pv un ∧ r0 = none) 0 0) 17 [some (.ref (A 0)), some (.int (nI b0))] [] (mdH E h A (va_up (va_up (va_up s 0 (nI 0)) 8 (nI 0)) 5 (nI 0)) w si sr pu va ro pa ba ma ti ta im sh pv un) 0 0 := by
  intro g
  induction g with
  | zero =>
    intro b0 w hb0 hlt
    refine gr_iload_n dX9_clear_17 rfl (gr_bipush (v := nI 35) dX9_clear_18 (by decide) ?_)
    refine gr_icmpgeN 36 dX9_clear_20 (by decide) (by omega) (by omega) (fun _ => ?_) (fun z => absurd z (by omega))
    refine gr_iconst (v := nI 0) dX9_clear_36 rfl (gr_istore_n dX9_clear_37 (by decide) rfl ?_)
    exact c_cl_si l E d h A hA s fa si sr pu va ro pa ba ma ti ta im sh un pv w (fun j hj => hlt j (by omega)) 11 0 si (by omega) (fun j hj => absurd hj (by omega))
  | succ g ih =>
    intro b0 w hb0 hlt
    refine gr_iload_n dX9_clear_17 rfl (gr_bipush (v := nI 35) dX9_clear_18 (by decide) ?_)
    refine gr_icmpgeN 36 dX9_clear_20 (by decide) (by omega) (by omega) (fun z => absurd z (by omega)) (fun _ => ?_)
    refine gr_aload_n dX9_clear_23 rfl ?_
    refine gr_getf dX9_clear_24 cls_X9 2 (by decide) fl_X9_13 (md_0 hA) rfl ?_
    refine gr_iload_n dX9_clear_27 rfl ?_
    refine gr_iconst (v := nI (0 : zp).val) dX9_clear_28 rfl ?_
    refine gr_iastoreF (x := 0) dX9_clear_29 (md_1 hA) (by omega) (by decide) ?_
    rw [md_w1 hA]
    refine gr_iinc (v := nI (_ + 1)) dX9_clear_30 rfl (nI_1 _) (by decide) rfl ?_
    refine gr_goto 17 dX9_clear_33 (by decide) ?_
    refine ih (b0 + 1) _ (by omega) (fun j hj => ?_)
    by_cases e : j = b0
    · rw [e, va_us]
    · rw [va_un e]; exact hlt j (by omega)

set_option maxHeartbeats 4000000 in
set_option maxRecDepth 100000 in
theorem c_mclear (l : Launch) (E : ga_E) (d : Nat) (h : ga_H) (A : Nat → Nat) (hA : ga_inj A 16) (s : Nat → Int32) (fa si sr pu va ro pa ba ma ti ta im sh un : Nat → zp) (pv : Nat → Option Nat) : ga_Ok l E d mX9_clear [.ref (A 0)] (mdH E h A s fa si sr pu va ro pa ba ma ti ta im sh pv un) 0 0 (fun r0 h' => ∃ fa' si' pu', (∀ j, j < 35 → fa' j = 0) ∧ (∀ j, j < 11 → si' j = 0) ∧ (∀ j, j < 13 → pu' j = 0) ∧ h' = mdH E h A (va_up (va_up (va_up s 0 (nI 0)) 8 (nI 0)) 5 (nI 0)) fa' si' sr pu' va ro pa ba ma ti ta im sh pv un ∧ r0 = none) := by
  refine ga_Ok.of 1 _ (by decide) rfl (Nat.le_of_ble_eq_true rfl) rfl ?_
  refine gr_aload_n dX9_clear_0 rfl ?_
  refine gr_iconst (v := nI 0) dX9_clear_1 rfl ?_
  refine gr_putf dX9_clear_2 cls_X9 0 (by decide) fl_X9_7 rfl rfl rfl (Nat.le_of_ble_eq_true rfl) (md_0 hA) ?_
  rw [md_s0 hA]
  refine gr_aload_n dX9_clear_5 rfl ?_
  refine gr_iconst (v := nI 0) dX9_clear_6 rfl ?_
  refine gr_putf dX9_clear_7 cls_X9 8 (by decide) fl_X9_32 rfl rfl rfl (Nat.le_of_ble_eq_true rfl) (md_0 hA) ?_
  rw [md_s8 hA]
  refine gr_aload_n dX9_clear_10 rfl ?_
  refine gr_iconst (v := nI 0) dX9_clear_11 rfl ?_
  refine gr_putf dX9_clear_12 cls_X9 5 (by decide) fl_X9_23 rfl rfl rfl (Nat.le_of_ble_eq_true rfl) (md_0 hA) ?_
  rw [md_s5 hA]
  refine gr_iconst (v := nI 0) dX9_clear_15 rfl ?_
  refine gr_istore_n dX9_clear_16 (by decide) rfl ?_
  exact c_cl_fa l E d h A hA s fa si sr pu va ro pa ba ma ti ta im sh un pv 35 0 fa (by omega) (fun j hj => absurd hj (by omega))
