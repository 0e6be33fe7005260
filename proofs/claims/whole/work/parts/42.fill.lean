/-! The reference: fill, clears, answers -/
def TbF (fa si : Nat → zp) (o : Nat) (z : zp) (T : Nat → zp) : Prop := (∀ k, k < 19 → ∀ c, c < 13 → T (14 * k + c) = apE (mono 1 (12 - c)) z fa o k) ∧ ∀ k, k < 19 → T (14 * k + 13) = if k < 11 then si k else 0

set_option maxHeartbeats 4000000 in
set_option maxRecDepth 100000 in
theorem c_fi_unit (l : Launch) (E : ga_E) (d : Nat) (h : ga_H) (A : Nat → Nat) (hA : ga_inj A 16) (s : Nat → Int32) (fa si sr pu va ro pa ba ma ti ta im sh un : Nat → zp) (pv : Nat → Option Nat) (z : zp) (o : Nat) (ho : s 1 = nI o) (ho4 : o ≤ 4) (c : Nat) (hc : c < 13) (kx : ∀ (w : Nat → zp) (x4 : Option Value), (∀ j, j < 13 → w j = mono 1 (12 - c) j) → ga_G l E mX9_fill (ga_Rm (d + 2) 0 0) (ga_Z E (fun r0 h' => ∃ ta' im' sh' un', TbF fa si o z ta' ∧ h' = mdH E h A s fa si sr pu va ro pa ba ma ti ta' im' sh' pv un' ∧ r0 = none) 0 0) 47 [some (.ref (A 0)), some (.int (nI z.val)), some (.ref (A 15)), some (.int (nI c)), x4] [] (mdH E h A s fa si sr pu va ro pa ba ma ti ta im sh pv w) 0 0) : ∀ (g k : Nat) (w : Nat → zp), k + g = 13 → (∀ j, j < k → w j = mono 1 (12 - c) j) → ga_G l E mX9_fill (ga_Rm (d + 2) 0 0) (ga_Z E (fun r0 h' => ∃ ta' im' sh' un', TbF fa si o z ta' ∧ h' = mdH E h A s fa si sr pu va ro pa ba ma ti ta' im' sh' pv un' ∧ r0 = none) 0 0) 16 [some (.ref (A 0)), some (.int (nI z.val)), some (.ref (A 15)), some (.int (nI c)), some (.int (nI k))] [] (mdH E h A s fa si sr pu va ro pa ba ma ti ta im sh pv w) 0 0 := by
  intro g
  induction g with
  | zero =>
    intro k w hk hw
    refine gr_iload dX9_fill_16 rfl (gr_bipush (v := nI 13) dX9_fill_18 (by decide) ?_)
    refine gr_icmpgeN 47 dX9_fill_20 (by decide) (by omega) (by omega) (fun _ => ?_) (fun z => absurd z (by omega))
    exact kx w _ (fun j hj => hw j (by omega))
  | succ g ih =>
    intro k w hk hw
    refine gr_iload dX9_fill_16 rfl (gr_bipush (v := nI 13) dX9_fill_18 (by decide) ?_)
    refine gr_icmpgeN 47 dX9_fill_20 (by decide) (by omega) (by omega) (fun z => absurd z (by omega)) (fun _ => ?_)
    refine gr_aload_n dX9_fill_23 rfl ?_
    refine gr_iload dX9_fill_24 rfl ?_
    refine gr_iload dX9_fill_26 rfl ?_
    refine gr_bipush (v := nI 12) dX9_fill_28 (by decide) ?_
    refine gr_iload_n dX9_fill_30 rfl ?_
    refine gr_isubN dX9_fill_31 (by omega) ?_
    refine gr_icmpneN 39 dX9_fill_32 (by decide) (by omega) (by omega) (fun c_32 => ?_) (fun c_32 => ?_)
    · refine gr_iconst (v := nI (0 : zp).val) dX9_fill_39 rfl ?_
      refine gr_iastoreF dX9_fill_40 (md_15 hA) (by omega) (by decide) ?_
      rw [md_w15 hA]
      refine gr_iinc (v := nI (_ + 1)) dX9_fill_41 rfl (nI_1 _) (by decide) rfl ?_
      refine gr_goto 16 dX9_fill_44 (by decide) ?_
      refine ih (k + 1) _ (by omega) (fun j hj => ?_)
      by_cases e : j = k
      · subst e
        rw [va_us]
        first
          | exact (if_neg c_32).symm
          | exact (if_pos c_32).symm
      · rw [va_un e]; exact hw j (by omega)
    · refine gr_iconst (v := nI (1 : zp).val) dX9_fill_35 rfl ?_
      refine gr_goto 40 dX9_fill_36 (by decide) ?_
      refine gr_iastoreF dX9_fill_40 (md_15 hA) (by omega) (by decide) ?_
      rw [md_w15 hA]
      refine gr_iinc (v := nI (_ + 1)) dX9_fill_41 rfl (nI_1 _) (by decide) rfl ?_
      refine gr_goto 16 dX9_fill_44 (by decide) ?_
      refine ih (k + 1) _ (by omega) (fun j hj => ?_)
      by_cases e : j = k
      · subst e
        rw [va_us]
        first
          | exact (if_neg c_32).symm
          | exact (if_pos c_32).symm
      · rw [va_un e]; exact hw j (by omega)

set_option maxHeartbeats 4000000 in
set_option maxRecDepth 100000 in
theorem c_fi_copy (l : Launch) (E : ga_E) (d : Nat) (h : ga_H) (A : Nat → Nat) (hA : ga_inj A 16) (s : Nat → Int32) (fa si sr pu va ro pa ba ma ti ta im sh un : Nat → zp) (pv : Nat → Option Nat) (z : zp) (o : Nat) (ho : s 1 = nI o) (ho4 : o ≤ 4) (c : Nat) (hc : c < 13) (w u1 u2 : Nat → zp) (hw : ∀ n, n < 19 → w n = apE (mono 1 (12 - c)) z fa o n) (kx : ∀ (T : Nat → zp) (x4 : Option Value), (∀ k1, k1 < 19 → ∀ c1, c1 < 13 → c1 < c + 1 → T (14 * k1 + c1) = apE (mono 1 (12 - c1)) z fa o k1) → ga_G l E mX9_fill (ga_Rm (d + 2) 0 0) (ga_Z E (fun r0 h' => ∃ ta' im' sh' un', TbF fa si o z ta' ∧ h' = mdH E h A s fa si sr pu va ro pa ba ma ti ta' im' sh' pv un' ∧ r0 = none) 0 0) 88 [some (.ref (A 0)), some (.int (nI z.val)), some (.ref (A 15)), some (.int (nI c)), x4] [] (mdH E h A s fa si sr pu va ro pa ba ma ti T w u1 pv u2) 0 0) : ∀ (g k : Nat) (T : Nat → zp), k + g = 19 → (∀ k1, k1 < 19 → ∀ c1, c1 < 13 → (c1 < c ∨ c1 = c ∧ k1 < k) → T (14 * k1 + c1) = apE (mono 1 (12 - c1)) z fa o k1) → ga_G l E mX9_fill (ga_Rm (d + 2) 0 0) (ga_Z E (fun r0 h' => ∃ ta' im' sh' un', TbF fa si o z ta' ∧ h' = mdH E h A s fa si sr pu va ro pa ba ma ti ta' im' sh' pv un' ∧ r0 = none) 0 0) 56 [some (.ref (A 0)), some (.int (nI z.val)), some (.ref (A 15)), some (.int (nI c)), some (.int (nI k))] [] (mdH E h A s fa si sr pu va ro pa ba ma ti T w u1 pv u2) 0 0 := by
  intro g
  induction g with
  | zero =>
    intro k T hk hT
    refine gr_iload dX9_fill_56 rfl (gr_bipush (v := nI 19) dX9_fill_58 (by decide) ?_)
    refine gr_icmpgeN 88 dX9_fill_60 (by decide) (by omega) (by omega) (fun _ => ?_) (fun z => absurd z (by omega))
    exact kx T _ (fun k1 hk1 c1 hc1 hcc => hT k1 hk1 c1 hc1 (by omega))
  | succ g ih =>
    intro k T hk hT
    refine gr_iload dX9_fill_56 rfl (gr_bipush (v := nI 19) dX9_fill_58 (by decide) ?_)
    refine gr_icmpgeN 88 dX9_fill_60 (by decide) (by omega) (by omega) (fun z => absurd z (by omega)) (fun _ => ?_)
    refine gr_aload_n dX9_fill_63 rfl ?_
    refine gr_getf dX9_fill_64 cls_X9 17 (by decide) fl_X9_60 (md_0 hA) rfl ?_
    refine gr_bipush (v := nI 14) dX9_fill_67 (by decide) ?_
    refine gr_iload dX9_fill_69 rfl ?_
    refine gr_imulN dX9_fill_71 ?_
    refine gr_iload_n dX9_fill_72 rfl ?_
    refine gr_iaddN dX9_fill_73 ?_
    refine gr_aload_n dX9_fill_74 rfl ?_
    refine gr_getf dX9_fill_75 cls_X9 18 (by decide) fl_X9_63 (md_0 hA) rfl ?_
    refine gr_iload dX9_fill_78 rfl ?_
    refine gr_ialoadF dX9_fill_80 (md_12 hA) (by omega) (by decide) ?_
    refine gr_iastoreF dX9_fill_81 (md_11 hA) (by omega) (by decide) ?_
    rw [md_w11 hA]
    refine gr_iinc (v := nI (_ + 1)) dX9_fill_82 rfl (nI_1 _) (by decide) rfl ?_
    refine gr_goto 56 dX9_fill_85 (by decide) ?_
    refine ih (k + 1) _ (by omega) (fun k1 hk1 c1 hc1 hcc => ?_)
    by_cases e : k1 = k ∧ c1 = c
    · obtain ⟨rfl, rfl⟩ := e
      rw [va_us]
      exact hw k1 hk1
    · rw [va_un (by omega)]; exact hT k1 hk1 c1 hc1 (by omega)

set_option maxHeartbeats 4000000 in
set_option maxRecDepth 100000 in
theorem c_fi_side (l : Launch) (E : ga_E) (d : Nat) (h : ga_H) (A : Nat → Nat) (hA : ga_inj A 16) (s : Nat → Int32) (fa si sr pu va ro pa ba ma ti ta im sh un : Nat → zp) (pv : Nat → Option Nat) (z : zp) (o : Nat) (ho : s 1 = nI o) (ho4 : o ≤ 4) (w u1 u2 : Nat → zp) (x4 : Option Value) : ∀ (g k : Nat) (T : Nat → zp), k + g = 19 → (∀ k1, k1 < 19 → ∀ c1, c1 < 13 → T (14 * k1 + c1) = apE (mono 1 (12 - c1)) z fa o k1) → (∀ k1, k1 < k → T (14 * k1 + 13) = if k1 < 11 then si k1 else 0) → ga_G l E mX9_fill (ga_Rm (d + 2) 0 0) (ga_Z E (fun r0 h' => ∃ ta' im' sh' un', TbF fa si o z ta' ∧ h' = mdH E h A s fa si sr pu va ro pa ba ma ti ta' im' sh' pv un' ∧ r0 = none) 0 0) 96 [some (.ref (A 0)), some (.int (nI z.val)), some (.ref (A 15)), some (.int (nI k)), x4] [] (mdH E h A s fa si sr pu va ro pa ba ma ti T w u1 pv u2) 0 0 := by
  intro g
  induction g with
  | zero =>
    intro k T hk hT hS
    refine gr_iload_n dX9_fill_96 rfl (gr_bipush (v := nI 19) dX9_fill_97 (by decide) ?_)
    refine gr_icmpgeN 136 dX9_fill_99 (by decide) (by omega) (by omega) (fun _ => ?_) (fun z => absurd z (by omega))
    exact gr_return dX9_fill_136 rfl (Nat.le_refl _) (Nat.le_refl _) ⟨T, w, u1, u2, ⟨hT, fun k1 hk1 => hS k1 (by omega)⟩, rfl, rfl⟩
  | succ g ih =>
    intro k T hk hT hS
    refine gr_iload_n dX9_fill_96 rfl (gr_bipush (v := nI 19) dX9_fill_97 (by decide) ?_)
    refine gr_icmpgeN 136 dX9_fill_99 (by decide) (by omega) (by omega) (fun z => absurd z (by omega)) (fun _ => ?_)
    refine gr_aload_n dX9_fill_102 rfl ?_
    refine gr_getf dX9_fill_103 cls_X9 17 (by decide) fl_X9_60 (md_0 hA) rfl ?_
    refine gr_bipush (v := nI 14) dX9_fill_106 (by decide) ?_
    refine gr_iload_n dX9_fill_108 rfl ?_
    refine gr_imulN dX9_fill_109 ?_
    refine gr_bipush (v := nI 13) dX9_fill_110 (by decide) ?_
    refine gr_iaddN dX9_fill_112 ?_
    refine gr_iload_n dX9_fill_113 rfl ?_
    refine gr_bipush (v := nI 11) dX9_fill_114 (by decide) ?_
    refine gr_icmpgeN 128 dX9_fill_116 (by decide) (by omega) (by omega) (fun c_116 => ?_) (fun c_116 => ?_)
    · refine gr_iconst (v := nI (0 : zp).val) dX9_fill_128 rfl ?_
      refine gr_iastoreF dX9_fill_129 (md_11 hA) (by omega) (by decide) ?_
      rw [md_w11 hA]
      refine gr_iinc (v := nI (_ + 1)) dX9_fill_130 rfl (nI_1 _) (by decide) rfl ?_
      refine gr_goto 96 dX9_fill_133 (by decide) ?_
      refine ih (k + 1) _ (by omega) (fun k1 hk1 c1 hc1 => ?_) (fun k1 hk1 => ?_)
      · rw [va_un (by omega)]; exact hT k1 hk1 c1 hc1
      · by_cases e : k1 = k
        · subst e
          rw [va_us]
          first
            | exact (if_neg (by omega)).symm
            | exact (if_pos (by omega)).symm
        · rw [va_un (by omega)]; exact hS k1 (by omega)
    · refine gr_aload_n dX9_fill_119 rfl ?_
      refine gr_getf dX9_fill_120 cls_X9 3 (by decide) fl_X9_17 (md_0 hA) rfl ?_
      refine gr_iload_n dX9_fill_123 rfl ?_
      refine gr_ialoadF dX9_fill_124 (md_2 hA) (by omega) (by decide) ?_
      refine gr_goto 129 dX9_fill_125 (by decide) ?_
      refine gr_iastoreF dX9_fill_129 (md_11 hA) (by omega) (by decide) ?_
      rw [md_w11 hA]
      refine gr_iinc (v := nI (_ + 1)) dX9_fill_130 rfl (nI_1 _) (by decide) rfl ?_
      refine gr_goto 96 dX9_fill_133 (by decide) ?_
      refine ih (k + 1) _ (by omega) (fun k1 hk1 c1 hc1 => ?_) (fun k1 hk1 => ?_)
      · rw [va_un (by omega)]; exact hT k1 hk1 c1 hc1
      · by_cases e : k1 = k
        · subst e
          rw [va_us]
          first
            | exact (if_neg (by omega)).symm
            | exact (if_pos (by omega)).symm
        · rw [va_un (by omega)]; exact hS k1 (by omega)

set_option maxHeartbeats 4000000 in
set_option maxRecDepth 100000 in
theorem c_fi_outer (l : Launch) (E : ga_E) (d : Nat) (h : ga_H) (A : Nat → Nat) (hA : ga_inj A 16) (s : Nat → Int32) (fa si sr pu va ro pa ba ma ti ta im sh un : Nat → zp) (pv : Nat → Option Nat) (z : zp) (o : Nat) (ho : s 1 = nI o) (ho4 : o ≤ 4) : ∀ (g c : Nat) (T w u1 u2 : Nat → zp) (x4 : Option Value), c + g = 13 → (∀ k1, k1 < 19 → ∀ c1, c1 < 13 → c1 < c → T (14 * k1 + c1) = apE (mono 1 (12 - c1)) z fa o k1) → ga_G l E mX9_fill (ga_Rm (d + 2) 0 0) (ga_Z E (fun r0 h' => ∃ ta' im' sh' un', TbF fa si o z ta' ∧ h' = mdH E h A s fa si sr pu va ro pa ba ma ti ta' im' sh' pv un' ∧ r0 = none) 0 0) 7 [some (.ref (A 0)), some (.int (nI z.val)), some (.ref (A 15)), some (.int (nI c)), x4] [] (mdH E h A s fa si sr pu va ro pa ba ma ti T w u1 pv u2) 0 0 := by
  intro g
  induction g with
  | zero =>
    intro c T w u1 u2 x4 hc hT
    refine gr_iload_n dX9_fill_7 rfl (gr_bipush (v := nI 13) dX9_fill_8 (by decide) ?_)
    refine gr_icmpgeN 94 dX9_fill_10 (by decide) (by omega) (by omega) (fun _ => ?_) (fun z => absurd z (by omega))
    refine gr_iconst (v := nI 0) dX9_fill_94 rfl (gr_istore_n dX9_fill_95 (by decide) rfl ?_)
    exact c_fi_side l E d h A hA s fa si sr pu va ro pa ba ma ti ta im sh un pv z o ho ho4 w u1 u2 _ 19 0 T (by omega) (fun k1 hk1 c1 hc1 => hT k1 hk1 c1 hc1 (by omega)) (fun j hj => absurd hj (by omega))
  | succ g ih =>
    intro c T w u1 u2 x4 hc hT
    refine gr_iload_n dX9_fill_7 rfl (gr_bipush (v := nI 13) dX9_fill_8 (by decide) ?_)
    refine gr_icmpgeN 94 dX9_fill_10 (by decide) (by omega) (by omega) (fun z => absurd z (by omega)) (fun _ => ?_)
    refine gr_iconst (v := nI 0) dX9_fill_13 rfl ?_
    refine gr_istore dX9_fill_14 (by decide) rfl ?_
    refine c_fi_unit l E d h A hA s fa si sr pu va ro pa ba ma ti T w u1 u2 pv z o ho ho4 c (by omega) (fun w2 y4 hw2 => ?_) 13 0 u2 (by omega) (fun j hj => absurd hj (by omega))
    refine gr_aload_n dX9_fill_47 rfl ?_
    refine gr_aload_n dX9_fill_48 rfl ?_
    refine gr_iload_n dX9_fill_49 rfl ?_
    refine gr_callV dX9_fill_50 (c_apply l E d h A hA s fa si sr pu va ro pa ba ma ti T w u1 w2 pv (A 15) w2 (fun _ _ => md_15 hA) z o ho ho4) ysX9_apply ⟨ml_X9_88, im_X9_apply, sl_X9_apply⟩ (md_0 hA) (show vwCl[9]? = some (RX9, TX9, _) from rfl) rfl rfl (Nat.le_of_ble_eq_true rfl) ⟨(Nat.le_refl _), (Nat.le_refl _)⟩ ⟨(Nat.le_refl _), (Nat.le_refl _)⟩ (fun r0 h1 hp9 => ?_)
    obtain ⟨im2, sh2, him, rfl, rfl⟩ := hp9
    refine gr_iconst (v := nI 0) dX9_fill_53 rfl ?_
    refine gr_istore dX9_fill_54 (by decide) rfl ?_
    refine c_fi_copy l E d h A hA s fa si sr pu va ro pa ba ma ti T im2 sh2 w2 pv z o ho ho4 c (by omega) im2 sh2 w2 (fun n hn => by rw [him n hn, apE_congr hw2]) (fun T2 y4 hT2 => ?_) 19 0 T (by omega) (fun k1 hk1 c1 hc1 hcc => hT k1 hk1 c1 hc1 (by omega))
    refine gr_iinc (v := nI (_ + 1)) dX9_fill_88 rfl (nI_1 _) (by decide) rfl ?_
    refine gr_goto 7 dX9_fill_91 (by decide) ?_
    exact ih (c + 1) T2 im2 sh2 w2 _ (by omega) hT2

set_option maxHeartbeats 4000000 in
set_option maxRecDepth 100000 in
theorem c_mfill (l : Launch) (E : ga_E) (d : Nat) (h : ga_H) (A : Nat → Nat) (hA : ga_inj A 16) (s : Nat → Int32) (fa si sr pu va ro pa ba ma ti ta im sh un : Nat → zp) (pv : Nat → Option Nat) (z : zp) (o : Nat) (ho : s 1 = nI o) (ho4 : o ≤ 4) : ga_Ok l E (d + 2) mX9_fill [.ref (A 0), .int (nI z.val)] (mdH E h A s fa si sr pu va ro pa ba ma ti ta im sh pv un) 0 0 (fun r0 h' => ∃ ta' im' sh' un', TbF fa si o z ta' ∧ h' = mdH E h A s fa si sr pu va ro pa ba ma ti ta' im' sh' pv un' ∧ r0 = none) := by
  refine ga_Ok.of 3 _ (by decide) rfl (Nat.le_of_ble_eq_true rfl) rfl ?_
  refine gr_aload_n dX9_fill_0 rfl ?_
  refine gr_getf dX9_fill_1 cls_X9 21 (by decide) fl_X9_72 (md_0 hA) rfl ?_
  refine gr_astore_n dX9_fill_4 (by decide) rfl ?_
  refine gr_iconst (v := nI 0) dX9_fill_5 rfl ?_
  refine gr_istore_n dX9_fill_6 (by decide) rfl ?_
  exact c_fi_outer l E d h A hA s fa si sr pu va ro pa ba ma ti ta im sh un pv z o ho ho4 13 0 ta im sh un _ (by omega) (fun k1 _ c1 _ hcc => absurd hcc (by omega))
