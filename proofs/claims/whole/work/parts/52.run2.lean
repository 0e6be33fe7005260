/-! The reference: run, its first half -/
set_option maxHeartbeats 4000000 in
set_option maxRecDepth 100000 in
theorem c_run_meets (l : Launch) (E : ga_E) (d : Nat) (h : ga_H) (A : Nat → Nat) (hA : ga_inj A 16) (fa si sr pu va ro pa ba ma ti ta im sh un : Nat → zp) (pv : Nat → Option Nat) (r : Nat) (PP : Option Value → ga_H → Prop) (o n : Nat) (S5 : Int32) (kx : ∀ (s : Nat → Int32) (b : Bool) (x2 : Option Value), (s 0 = nI 0 ∧ s 1 = nI o ∧ s 5 = S5 ∧ s 9 = nI n) → s 11 = bI b → (b = true ↔ (∀ k1, r ≤ k1 → k1 < 19 → ta (14 * k1 + 13) = 0)) → ga_G l E mX9_run (ga_Rm (d + 3) 0 0) (ga_Z E PP 0 0) 81 [some (.ref (A 0)), some (.int (nI r)), x2, none, none, none, none] [] (mdH E h A s fa si sr pu va ro pa ba ma ti ta im sh pv un) 0 0) : ∀ (g k : Nat) (s : Nat → Int32) (b : Bool), k + g = 19 → r ≤ k → (s 0 = nI 0 ∧ s 1 = nI o ∧ s 5 = S5 ∧ s 9 = nI n) → s 11 = bI b → (b = true ↔ (∀ k1, r ≤ k1 → k1 < k → ta (14 * k1 + 13) = 0)) → ga_G l E mX9_run (ga_Rm (d + 3) 0 0) (ga_Z E PP 0 0) 49 [some (.ref (A 0)), some (.int (nI r)), some (.int (nI k)), none, none, none, none] [] (mdH E h A s fa si sr pu va ro pa ba ma ti ta im sh pv un) 0 0 := by
  intro g
  induction g with
  | zero =>
    intro k s b hk hk2 hs hb hbb
    refine gr_iload_n dX9_run_49 rfl (gr_bipush (v := nI 19) dX9_run_50 (by decide) ?_)
    refine gr_icmpgeN 81 dX9_run_52 (by decide) (by omega) (by omega) (fun _ => ?_) (fun z => absurd z (by omega))
    rw [show k = 19 by omega] at hbb
    exact kx s b _ hs hb hbb
  | succ g ih =>
    intro k s b hk hk2 hs hb hbb
    refine gr_iload_n dX9_run_49 rfl (gr_bipush (v := nI 19) dX9_run_50 (by decide) ?_)
    refine gr_icmpgeN 81 dX9_run_52 (by decide) (by omega) (by omega) (fun z => absurd z (by omega)) (fun _ => ?_)
    refine gr_aload_n dX9_run_55 rfl ?_
    refine gr_getf dX9_run_56 cls_X9 17 (by decide) fl_X9_60 (md_0 hA) rfl ?_
    refine gr_bipush (v := nI 14) dX9_run_59 (by decide) ?_
    refine gr_iload_n dX9_run_61 rfl ?_
    refine gr_imulN dX9_run_62 ?_
    refine gr_bipush (v := nI 13) dX9_run_63 (by decide) ?_
    refine gr_iaddN dX9_run_65 ?_
    refine gr_ialoadF dX9_run_66 (md_11 hA) (by omega) (by decide) ?_
    refine gr_ifeqN 75 dX9_run_67 (by decide) (by have := zl (ta (14 * k + 13)); omega) (fun c_67 => ?_) (fun c_67 => ?_)
    · refine gr_iinc (v := nI (_ + 1)) dX9_run_75 rfl (nI_1 _) (by decide) rfl ?_
      refine gr_goto 49 dX9_run_78 (by decide) ?_
      refine ih (k + 1) s b (by omega) (by omega) hs hb (hbb.trans ⟨fun w k1 h1 h2 => ?_, fun w k1 h1 h2 => w k1 h1 (by omega)⟩)
      by_cases e : k1 = k
      · rw [e]; exact Fin.ext c_67
      · exact w k1 h1 (by omega)
    · refine gr_aload_n dX9_run_70 rfl ?_
      refine gr_iconst (v := nI 0) dX9_run_71 rfl ?_
      refine gr_putf dX9_run_72 cls_X9 11 (by decide) fl_X9_42 rfl rfl rfl (Nat.le_of_ble_eq_true rfl) (md_0 hA) ?_
      rw [md_s11 hA]
      refine gr_iinc (v := nI (_ + 1)) dX9_run_75 rfl (nI_1 _) (by decide) rfl ?_
      refine gr_goto 49 dX9_run_78 (by decide) ?_
      refine ih (k + 1) _ false (by omega) (by omega) hs rfl ⟨fun w => absurd w (by decide), fun w => absurd (w k hk2 (by omega)) (fun e => c_67 (by rw [e]; rfl))⟩

set_option maxHeartbeats 4000000 in
set_option maxRecDepth 100000 in
theorem c_run_part (l : Launch) (E : ga_E) (d : Nat) (h : ga_H) (A : Nat → Nat) (hA : ga_inj A 16) (s : Nat → Int32) (fa si sr pu va ro pa ba ma ti ta im sh un : Nat → zp) (pv : Nat → Option Nat) (r : Nat) (PP : Option Value → ga_H → Prop) (hpv : ∀ j i, j < 13 → pv j = some i → i < 19) (kx : ∀ (pa : Nat → zp) (x2 : Option Value), (∀ j, j < 13 → pa j = px (tM ta) (rvp pv) j) → ga_G l E mX9_run (ga_Rm (d + 3) 0 0) (ga_Z E PP 0 0) 137 [some (.ref (A 0)), some (.int (nI r)), x2, none, none, none, none] [] (mdH E h A s fa si sr pu va ro pa ba ma ti ta im sh pv un) 0 0) : ∀ (g k : Nat) (w : Nat → zp), k + g = 13 → (∀ j, j < k → w j = px (tM ta) (rvp pv) j) → ga_G l E mX9_run (ga_Rm (d + 3) 0 0) (ga_Z E PP 0 0) 83 [some (.ref (A 0)), some (.int (nI r)), some (.int (nI k)), none, none, none, none] [] (mdH E h A s fa si sr pu va ro w ba ma ti ta im sh pv un) 0 0 := by
  intro g
  induction g with
  | zero =>
    intro k w hk hw
    refine gr_iload_n dX9_run_83 rfl (gr_bipush (v := nI 13) dX9_run_84 (by decide) ?_)
    refine gr_icmpgeN 137 dX9_run_86 (by decide) (by omega) (by omega) (fun _ => ?_) (fun z => absurd z (by omega))
    exact kx w _ (fun j hj => hw j (by omega))
  | succ g ih =>
    intro k w hk hw
    refine gr_iload_n dX9_run_83 rfl (gr_bipush (v := nI 13) dX9_run_84 (by decide) ?_)
    refine gr_icmpgeN 137 dX9_run_86 (by decide) (by omega) (by omega) (fun z => absurd z (by omega)) (fun _ => ?_)
    refine gr_aload_n dX9_run_89 rfl ?_
    refine gr_getf dX9_run_90 cls_X9 12 (by decide) fl_X9_45 (md_0 hA) rfl ?_
    refine gr_iload_n dX9_run_93 rfl ?_
    refine gr_aload_n dX9_run_94 rfl ?_
    refine gr_getf dX9_run_95 cls_X9 20 (by decide) fl_X9_69 (md_0 hA) rfl ?_
    refine gr_bipush (v := nI 12) dX9_run_98 (by decide) ?_
    refine gr_iload_n dX9_run_100 rfl ?_
    refine gr_isubN dX9_run_101 (by omega) ?_
    refine gr_iaload dX9_run_102 (md_14 hA) (by omega) (by decide) ?_
    rcases hq : pv (12 - k) with _ | p
    · refine gr_top (congrArg Value.int (show optI none = (-1 : Int32) from rfl)) (gr_ifge 110 dX9_run_103 (by decide) (fun z => absurd z (by decide)) (fun _ => ?_))
      refine gr_iconst (v := nI (0 : zp).val) dX9_run_106 rfl ?_
      refine gr_goto 130 dX9_run_107 (by decide) ?_
      refine gr_iastoreF dX9_run_130 (md_7 hA) (by omega) (by decide) ?_
      rw [md_w7 hA]
      refine gr_iinc (v := nI (_ + 1)) dX9_run_131 rfl (nI_1 _) (by decide) rfl ?_
      refine gr_goto 83 dX9_run_134 (by decide) ?_
      refine ih (k + 1) _ (by omega) (fun j hj => ?_)
      by_cases e : j = k
      · rw [e, va_us]
        unfold px
        rw [if_pos (by omega), show rvp pv k = none from hq]
      · rw [va_un e]; exact hw j (by omega)
    · have hp19 := hpv (12 - k) p (by omega) hq
      refine gr_top (congrArg Value.int (show optI (some p) = nI p from rfl)) (gr_ifge 110 dX9_run_103 (by decide) (fun _ => ?_) (fun z => absurd (Int32.not_lt.mp (nI_pos (by omega))) z))
      refine gr_aload_n dX9_run_110 rfl ?_
      refine gr_getf dX9_run_111 cls_X9 17 (by decide) fl_X9_60 (md_0 hA) rfl ?_
      refine gr_bipush (v := nI 14) dX9_run_114 (by decide) ?_
      refine gr_aload_n dX9_run_116 rfl ?_
      refine gr_getf dX9_run_117 cls_X9 20 (by decide) fl_X9_69 (md_0 hA) rfl ?_
      refine gr_bipush (v := nI 12) dX9_run_120 (by decide) ?_
      refine gr_iload_n dX9_run_122 rfl ?_
      refine gr_isubN dX9_run_123 (by omega) ?_
      refine gr_iaload dX9_run_124 (md_14 hA) (by omega) (by decide) ?_
      refine gr_top (congrArg Value.int (show optI (pv (12 - k)) = nI p by rw [hq]; rfl)) ?_
      refine gr_imulN dX9_run_125 ?_
      refine gr_bipush (v := nI 13) dX9_run_126 (by decide) ?_
      refine gr_iaddN dX9_run_128 ?_
      refine gr_ialoadF dX9_run_129 (md_11 hA) (by omega) (by decide) ?_
      refine gr_iastoreF dX9_run_130 (md_7 hA) (by omega) (by decide) ?_
      rw [md_w7 hA]
      refine gr_iinc (v := nI (_ + 1)) dX9_run_131 rfl (nI_1 _) (by decide) rfl ?_
      refine gr_goto 83 dX9_run_134 (by decide) ?_
      refine ih (k + 1) _ (by omega) (fun j hj => ?_)
      by_cases e : j = k
      · rw [e, va_us]
        unfold px
        rw [if_pos (by omega), show rvp pv k = some p from hq]
        show ta (14 * p + 13) = tM ta p 13
        rfl
      · rw [va_un e]; exact hw j (by omega)

set_option maxHeartbeats 4000000 in
set_option maxRecDepth 100000 in
theorem c_mrun (l : Launch) (E : ga_E) (d : Nat) (h : ga_H) (A : Nat → Nat) (hA : ga_inj A 16) (s : Nat → Int32) (fa si sr pu va ro pa ba ma ti ta im sh un : Nat → zp) (pv : Nat → Option Nat) (o : Nat) (ho : s 1 = nI o) (ho4 : o ≤ 4) (nr : Nat) (rt : Nat → zp) (hnr : nr ≤ 6) (hinc : Inc nr rt) (hhas : (∃ g, GrM fa o (some g)) → ∀ t, HiM fa o t → ∀ y, Has nr rt y ↔ tpR fa o t y) : ga_Ok l E (d + 3) mX9_run [.ref (A 0)] (mdH E h A s fa si sr pu va ro pa ba ma ti ta im sh pv un) 0 0 (fun r0 h' => GrM fa o none ∧ h' = mdH E h A (va_up (va_up s 0 (nI 0)) 8 (nI 0)) fa si sr pu va ro pa ba ma ti ta im sh pv un ∧ r0 = some (.int (nI 1)) ∨ (∃ g, GrM fa o (some g)) ∧ r0 = some (.int (nI 0)) ∧ ∃ (s' : Nat → Int32) (ro' pa' ba' ma' ti' ta' im' sh' : Nat → zp) (pv' : Nat → Option Nat) (un' : Nat → zp) (n pw t : Nat) (mt : Bool), h' = mdH E h A s' fa si sr pu va ro' pa' ba' ma' ti' ta' im' sh' pv' un' ∧ runS s' o (s 5) n mt ∧ s' 8 = nI 1 ∧ s' 13 = nI pw ∧ pw ≤ 6 ∧ n ≤ 13 ∧ HiM fa o t ∧ ResP (rM fa si o 1) n ro' ∧ ResM (rM fa si o 1) mt pa' ∧ ResB (rM fa si o) (tpR fa o t) pw ba' (fun k => (ma' k).val) (fun k m => ti' (169 * k + m))) := by
  refine ga_Ok.of 6 _ (by decide) rfl (Nat.le_of_ble_eq_true rfl) rfl ?_
  refine gr_aload_n dX9_run_0 rfl ?_
  refine gr_iconst (v := nI 0) dX9_run_1 rfl ?_
  refine gr_putf dX9_run_2 cls_X9 0 (by decide) fl_X9_7 rfl rfl rfl (Nat.le_of_ble_eq_true rfl) (md_0 hA) ?_
  rw [md_s0 hA]
  refine gr_aload_n dX9_run_5 rfl ?_
  refine gr_iconst (v := nI 0) dX9_run_6 rfl ?_
  refine gr_putf dX9_run_7 cls_X9 8 (by decide) fl_X9_32 rfl rfl rfl (Nat.le_of_ble_eq_true rfl) (md_0 hA) ?_
  rw [md_s8 hA]
  refine gr_aload_n dX9_run_10 rfl ?_
  refine gr_callV dX9_run_11 (c_greatest l E (d + 2) h A hA (va_up (va_up s 0 (nI 0)) 8 (nI 0)) fa si sr pu va ro pa ba ma ti ta im sh un pv o ho ho4) ysX9_greatest ⟨ml_X9_99, im_X9_greatest, sl_X9_greatest⟩ (md_0 hA) (show vwCl[9]? = some (RX9, TX9, _) from rfl) rfl rfl (Nat.le_of_ble_eq_true rfl) ⟨(Nat.le_refl _), (Nat.le_refl _)⟩ ⟨(Nat.le_refl _), (Nat.le_refl _)⟩ (fun r0 h1 hp9 => ?_)
  obtain ⟨rfl, q, rfl, hq⟩ := hp9
  rcases q with _ | g
  · refine gr_ifge 19 dX9_run_14 (by decide) (fun z => absurd z (by decide)) (fun _ => ?_)
    refine gr_iconst (v := nI 1) dX9_run_17 rfl ?_
    exact gr_ireturn dX9_run_18 rfl (Nat.le_refl _) (Nat.le_refl _) (Or.inl ⟨hq, rfl, rfl⟩)
  · have hgo : g ≤ o := by
      rcases hq with ⟨z, -⟩ | ⟨i, z, hi, -⟩
      · cases z
      · cases z; exact hi
    refine gr_top (congrArg Value.int (show optI (some g) = nI g from rfl)) (gr_ifge 19 dX9_run_14 (by decide) (fun _ => ?_) (fun z => absurd (Int32.not_lt.mp (nI_pos (by omega))) z))
    refine gr_aload_n dX9_run_19 rfl ?_
    refine gr_iconst (v := nI (1 : zp).val) dX9_run_20 rfl ?_
    refine gr_callV dX9_run_21 (c_mfill l E d h A hA (va_up (va_up s 0 (nI 0)) 8 (nI 0)) fa si sr pu va ro pa ba ma ti ta im sh un pv 1 o ho ho4) ysX9_fill ⟨ml_X9_103, im_X9_fill, sl_X9_fill⟩ (md_0 hA) (show vwCl[9]? = some (RX9, TX9, _) from rfl) rfl rfl (Nat.le_of_ble_eq_true rfl) ⟨(Nat.le_refl _), (Nat.le_refl _)⟩ ⟨(Nat.le_refl _), (Nat.le_refl _)⟩ (fun r0 h1 hp9 => ?_)
    obtain ⟨T, im2, sh2, un2, hTb, rfl, rfl⟩ := hp9
    refine gr_aload_n dX9_run_24 rfl ?_
    refine gr_callV dX9_run_25 (c_clears l E (d + 1) h A hA (va_up (va_up s 0 (nI 0)) 8 (nI 0)) fa si sr pu va ro pa ba ma ti T im2 sh2 un2 pv (rM fa si o 1) (TbF_rM hTb)) ysX9_clears ⟨ml_X9_107, im_X9_clears, sl_X9_clears⟩ (md_0 hA) (show vwCl[9]? = some (RX9, TX9, _) from rfl) rfl rfl (Nat.le_of_ble_eq_true rfl) ⟨(Nat.le_refl _), (Nat.le_refl _)⟩ ⟨(Nat.le_refl _), (Nat.le_refl _)⟩ (fun r0 h1 hp9 => ?_)
    obtain ⟨T2, pv2, r, hr13, hE, rfl, rfl⟩ := hp9
    refine gr_istore_n dX9_run_28 (by decide) rfl ?_
    refine gr_aload_n dX9_run_29 rfl ?_
    refine gr_aload_n dX9_run_30 rfl ?_
    refine gr_aload_n dX9_run_31 rfl ?_
    refine gr_getf dX9_run_32 cls_X9 10 (by decide) fl_X9_39 (md_0 hA) rfl ?_
    refine gr_iconst (v := nI 0) dX9_run_35 rfl ?_
    refine gr_callV dX9_run_36 (c_answers l E (d + 2) (fun v => mdH E h A (va_up (va_up s 0 (nI 0)) 8 (nI 0)) fa si sr pu va v pa ba ma ti T2 im2 sh2 pv2 un2) A (va_up (va_up s 0 (nI 0)) 8 (nI 0)) T2 pv2 (A 6) 169 0 (fun _ => md_0 hA) (fun _ => md_11 hA) (fun _ => md_14 hA) (fun _ => md_6 hA) (fun _ _ => md_w6 hA _) (by omega) (by omega) (ech_rng hE) ro) ysX9_answers ⟨ml_X9_110, im_X9_answers, sl_X9_answers⟩ (md_0 hA) (show vwCl[9]? = some (RX9, TX9, _) from rfl) rfl rfl (Nat.le_of_ble_eq_true rfl) ⟨(Nat.le_refl _), (Nat.le_refl _)⟩ ⟨(Nat.le_refl _), (Nat.le_refl _)⟩ (fun r0 h1 hp9 => ?_)
    obtain ⟨ro2, hO, -, rfl, rfl⟩ := hp9
    refine gr_putf dX9_run_39 cls_X9 9 (by decide) fl_X9_36 rfl rfl rfl (Nat.le_of_ble_eq_true rfl) (md_0 hA) ?_
    rw [md_s9 hA]
    refine gr_aload_n dX9_run_42 rfl ?_
    refine gr_iconst (v := nI 1) dX9_run_43 rfl ?_
    refine gr_putf dX9_run_44 cls_X9 11 (by decide) fl_X9_42 rfl rfl rfl (Nat.le_of_ble_eq_true rfl) (md_0 hA) ?_
    rw [md_s11 hA]
    refine gr_iload_n dX9_run_47 rfl ?_
    refine gr_istore_n dX9_run_48 (by decide) rfl ?_
    refine c_run_meets l E d h A hA fa si sr pu va ro2 pa ba ma ti T2 im2 sh2 un2 pv2 r _ o (cnt (rvp pv2) 13) (s 5) (fun s3 mt x2 hs3 hb3 hmt => ?_) (19 - r) r _ true (by omega) (by omega) ⟨rfl, ho, rfl, rfl⟩ rfl ⟨fun _ k1 h1 h2 => absurd h1 (by omega), fun _ => rfl⟩
    refine gr_iconst (v := nI 0) dX9_run_81 rfl (gr_istore_n dX9_run_82 (by decide) rfl ?_)
    refine c_run_part l E d h A hA s3 fa si sr pu va ro2 pa ba ma ti T2 im2 sh2 un2 pv2 r _ (ech_rng hE) (fun pa2 x2 hpa => ?_) 13 0 pa (by omega) (fun j hj => absurd hj (by omega))
    refine gr_aload_n dX9_run_137 rfl ?_
    refine gr_iconst (v := nI 0) dX9_run_138 rfl ?_
    refine gr_putf dX9_run_139 cls_X9 13 (by decide) fl_X9_48 rfl rfl rfl (Nat.le_of_ble_eq_true rfl) (md_0 hA) ?_
    rw [md_s13 hA]
    refine gr_aload_n dX9_run_142 rfl ?_
    refine gr_callV dX9_run_143 (c_highest l E (d + 2) h A hA (va_up s3 13 (nI 0)) fa si sr pu va ro2 pa2 ba ma ti T2 im2 sh2 un2 pv2 o hs3.2.1 ho4) ysX9_highest ⟨ml_X9_114, im_X9_highest, sl_X9_highest⟩ (md_0 hA) (show vwCl[9]? = some (RX9, TX9, _) from rfl) rfl rfl (Nat.le_of_ble_eq_true rfl) ⟨(Nat.le_refl _), (Nat.le_refl _)⟩ ⟨(Nat.le_refl _), (Nat.le_refl _)⟩ (fun r0 h1 hp9 => ?_)
    obtain ⟨rfl, t, rfl, hHi⟩ := hp9
    refine gr_istore_n dX9_run_146 (by decide) rfl ?_
    refine gr_iconst (v := nI 1) dX9_run_147 rfl ?_
    refine gr_istore_n dX9_run_148 (by decide) rfl ?_
    obtain ⟨c0, hB0⟩ := BI_start (Mz := rM fa si o) (Rt := tpR fa o t) hinc ba (fun k => (ma k).val) (fun k m => ti (169 * k + m))
    have hmt2 : ResM (rM fa si o 1) mt pa2 := ⟨_, _, _, hE, hmt.trans ⟨fun w i hi => ?_, fun w k1 h1 h2 => ?_⟩, fun _ => hpa⟩
    · refine c_run_z l E d h A hA fa si sr pu va ro2 pa2 o ho4 t hHi.1 r (cnt (rvp pv2) 13) mt (s 5) nr rt hnr hinc (hhas ⟨g, hq⟩ t hHi) _ (fun s4 ba4 ma4 ti4 ta4 im4 sh4 pv4 un4 pw hs4 hk4 hp4 hpw hRB => ?_) 32002 1 c0 0 _ ba ma ti T2 im2 sh2 pv2 un2 _ _ _ (by omega) (by omega) hB0 ⟨hs3.1, hs3.2.1, hs3.2.2.1, hs3.2.2.2, hb3⟩ rfl
      exact Or.inr ⟨⟨g, hq⟩, rfl, s4, ro2, pa2, ba4, ma4, ti4, ta4, im4, sh4, pv4, un4, cnt (rvp pv2) 13, pw, t, mt, rfl, hs4, hk4, hp4, by omega, cnt_le _ _, hHi, ⟨_, _, _, hE, rfl, fun f hf hp j hj => by have := hO f hf hp j hj; rwa [Nat.zero_add] at this⟩, hmt2, hRB⟩
    · by_cases e : i < r
      · exact Or.inl (decide_eq_true e)
      · exact Or.inr (w i (by omega) hi)
    · rcases w k1 h2 with z | z
      · exact absurd (of_decide_eq_true z) (by omega)
      · exact z
