/-! The component: empty, clear, and what the answers tell -/
set_option maxHeartbeats 4000000 in
set_option maxRecDepth 100000 in
theorem c_em_side (l : Launch) (E : ga_E) (d : Nat) (h : ga_H) (Z : Nat → Nat) (hZ : ga_inj Z 65) (o : Nat) (tr : Nat → zp) (zk : Bool) (kn : Bool) (mt : Bool) (bc : Nat) (n0 : Nat) (rv : Nat → zp) (pa : Nat → zp) (ba : Nat → zp) (bs : Nat → Nat) (bv : Nat → Nat → zp) (sn : Nat) (kv : Nat) (y : Nat → zp) (zn : Nat) (zf : Nat → zp) (cn : Nat) (cf : Nat → zp) (F : Nat → Nat → zp) (hF : ∀ i, i < 5 → ∀ a, a < 7 → F i a = 0) (x2 : Option Value) : ∀ (g b0 : Nat) (c : Nat → va_E) (S : Nat → zp), b0 + g = 11 → coI E Z c o F S tr zk kn mt bc n0 rv pa ba bs bv sn kv y zn zf cn cf → (∀ j, j < b0 → S j = 0) → ga_G l E mX1_empty (ga_Rm d 0 0) (ga_Z E (fun r0 h' => ∃ (c : Nat → va_E) (F : Nat → Nat → zp) (S : Nat → zp), coI E Z c o F S tr zk kn mt bc n0 rv pa ba bs bv sn kv y zn zf cn cf ∧ (∀ i, i < 5 → ∀ a, a < 7 → F i a = 0) ∧ (∀ a, a < 11 → S a = 0) ∧ h' = ga_ov h Z c 65 ∧ r0 = none) 0 0) 38 [some (.ref (Z 2)), some (.int (nI b0)), x2] [] (ga_ov h Z c 65) 0 0 := by
  intro g
  induction g with
  | zero =>
    intro b0 c S hb0 hI hlt
    refine gr_iload_n dX1_empty_38 rfl (gr_bipush (v := nI 11) dX1_empty_39 (by decide) ?_)
    refine gr_icmpgeN 57 dX1_empty_41 (by decide) (by omega) (by omega) (fun _ => ?_) (fun z => absurd z (by omega))
    exact gr_return dX1_empty_57 rfl (Nat.le_refl _) (Nat.le_refl _) ⟨c, F, S, hI, hF, fun a ha => hlt a (by omega), rfl, rfl⟩
  | succ g ih =>
    intro b0 c S hb0 hI hlt
    refine gr_iload_n dX1_empty_38 rfl (gr_bipush (v := nI 11) dX1_empty_39 (by decide) ?_)
    refine gr_icmpgeN 57 dX1_empty_41 (by decide) (by omega) (by omega) (fun z => absurd z (by omega)) (fun _ => ?_)
    refine gr_aload_n dX1_empty_44 rfl ?_
    refine gr_getf dX1_empty_45 cls_X1 2 (by decide) fl_X1_16 (eq_0 (co_eq hZ hI)) rfl ?_
    refine gr_iload_n dX1_empty_48 rfl ?_
    refine gr_iconst (v := nI (0 : zp).val) dX1_empty_49 rfl ?_
    refine gr_iastoreF (x := 0) dX1_empty_50 (eq_7 (co_eq hZ hI)) (by omega) (by decide) ?_
    refine gr_h (up_blk (off := 2 + 7) hZ (by omega)) ?_
    refine gr_iinc (v := nI (_ + 1)) dX1_empty_51 rfl (nI_1 _) (by decide) rfl ?_
    refine gr_goto 38 dX1_empty_54 (by decide) ?_
    refine ih (b0 + 1) _ _ (by omega) (cu_rs hI _) (fun j hj => ?_)
    by_cases e : j = b0
    · rw [e, va_us]
    · rw [va_un e]; exact hlt j (by omega)

set_option maxHeartbeats 4000000 in
set_option maxRecDepth 100000 in
theorem c_em_inner (l : Launch) (E : ga_E) (d : Nat) (h : ga_H) (Z : Nat → Nat) (hZ : ga_inj Z 65) (o : Nat) (tr : Nat → zp) (zk : Bool) (kn : Bool) (mt : Bool) (bc : Nat) (n0 : Nat) (rv : Nat → zp) (pa : Nat → zp) (ba : Nat → zp) (bs : Nat → Nat) (bv : Nat → Nat → zp) (sn : Nat) (kv : Nat) (y : Nat → zp) (zn : Nat) (zf : Nat → zp) (cn : Nat) (cf : Nat → zp) (S : Nat → zp) (i : Nat) (hi : i < 5) (kx : ∀ (c : Nat → va_E) (F : Nat → Nat → zp) (x2 : Option Value), coI E Z c o F S tr zk kn mt bc n0 rv pa ba bs bv sn kv y zn zf cn cf → (∀ k, k < i + 1 → ∀ a, a < 7 → F k a = 0) → ga_G l E mX1_empty (ga_Rm d 0 0) (ga_Z E (fun r0 h' => ∃ (c : Nat → va_E) (F : Nat → Nat → zp) (S : Nat → zp), coI E Z c o F S tr zk kn mt bc n0 rv pa ba bs bv sn kv y zn zf cn cf ∧ (∀ i, i < 5 → ∀ a, a < 7 → F i a = 0) ∧ (∀ a, a < 11 → S a = 0) ∧ h' = ga_ov h Z c 65 ∧ r0 = none) 0 0) 30 [some (.ref (Z 2)), some (.int (nI i)), x2] [] (ga_ov h Z c 65) 0 0) : ∀ (g b0 : Nat) (c : Nat → va_E) (F : Nat → Nat → zp), b0 + g = 7 → coI E Z c o F S tr zk kn mt bc n0 rv pa ba bs bv sn kv y zn zf cn cf → (∀ k, k < i → ∀ a, a < 7 → F k a = 0) → (∀ j, j < b0 → F i j = 0) → ga_G l E mX1_empty (ga_Rm d 0 0) (ga_Z E (fun r0 h' => ∃ (c : Nat → va_E) (F : Nat → Nat → zp) (S : Nat → zp), coI E Z c o F S tr zk kn mt bc n0 rv pa ba bs bv sn kv y zn zf cn cf ∧ (∀ i, i < 5 → ∀ a, a < 7 → F i a = 0) ∧ (∀ a, a < 11 → S a = 0) ∧ h' = ga_ov h Z c 65 ∧ r0 = none) 0 0) 9 [some (.ref (Z 2)), some (.int (nI i)), some (.int (nI b0))] [] (ga_ov h Z c 65) 0 0 := by
  intro g
  induction g with
  | zero =>
    intro b0 c F hb0 hI hlo hlt
    refine gr_iload_n dX1_empty_9 rfl (gr_bipush (v := nI 7) dX1_empty_10 (by decide) ?_)
    refine gr_icmpgeN 30 dX1_empty_12 (by decide) (by omega) (by omega) (fun _ => ?_) (fun z => absurd z (by omega))
    refine kx c F _ hI (fun k hk a ha => ?_)
    by_cases e : k = i
    · subst e; exact hlt a (by omega)
    · exact hlo k (by omega) a ha
  | succ g ih =>
    intro b0 c F hb0 hI hlo hlt
    refine gr_iload_n dX1_empty_9 rfl (gr_bipush (v := nI 7) dX1_empty_10 (by decide) ?_)
    refine gr_icmpgeN 30 dX1_empty_12 (by decide) (by omega) (by omega) (fun z => absurd z (by omega)) (fun _ => ?_)
    refine gr_aload_n dX1_empty_15 rfl ?_
    refine gr_getf dX1_empty_16 cls_X1 1 (by decide) fl_X1_11 (eq_0 (co_eq hZ hI)) rfl ?_
    refine gr_iload_n dX1_empty_19 rfl ?_
    refine gr_aaloadI dX1_empty_20 (eq_1 (co_eq hZ hI)) (by omega) (by decide) (eq_R (by omega)) ?_
    refine gr_iload_n dX1_empty_21 rfl ?_
    refine gr_iconst (v := nI (0 : zp).val) dX1_empty_22 rfl ?_
    refine gr_iastoreF (x := 0) dX1_empty_23 (eq_r (co_eq hZ hI) (by omega)) (by omega) (by decide) ?_
    refine gr_h (co_eqw hZ (by omega)) ?_
    refine gr_iinc (v := nI (_ + 1)) dX1_empty_24 rfl (nI_1 _) (by decide) rfl ?_
    refine gr_goto 9 dX1_empty_27 (by decide) ?_
    refine ih (b0 + 1) _ _ (by omega) (cu_eq hI i hi _) (fun k hk a ha => ?_) (fun j hj => ?_)
    · rw [va_un (by omega)]; exact hlo k hk a ha
    · rw [va_us]
      by_cases e : j = b0
      · rw [e, va_us]
      · rw [va_un e]; exact hlt j (by omega)

set_option maxHeartbeats 4000000 in
set_option maxRecDepth 100000 in
theorem c_em_outer (l : Launch) (E : ga_E) (d : Nat) (h : ga_H) (Z : Nat → Nat) (hZ : ga_inj Z 65) (o : Nat) (tr : Nat → zp) (zk : Bool) (kn : Bool) (mt : Bool) (bc : Nat) (n0 : Nat) (rv : Nat → zp) (pa : Nat → zp) (ba : Nat → zp) (bs : Nat → Nat) (bv : Nat → Nat → zp) (sn : Nat) (kv : Nat) (y : Nat → zp) (zn : Nat) (zf : Nat → zp) (cn : Nat) (cf : Nat → zp) (S : Nat → zp) : ∀ (g i : Nat) (c : Nat → va_E) (F : Nat → Nat → zp) (x2 : Option Value), i + g = 5 → coI E Z c o F S tr zk kn mt bc n0 rv pa ba bs bv sn kv y zn zf cn cf → (∀ k, k < i → ∀ a, a < 7 → F k a = 0) → ga_G l E mX1_empty (ga_Rm d 0 0) (ga_Z E (fun r0 h' => ∃ (c : Nat → va_E) (F : Nat → Nat → zp) (S : Nat → zp), coI E Z c o F S tr zk kn mt bc n0 rv pa ba bs bv sn kv y zn zf cn cf ∧ (∀ i, i < 5 → ∀ a, a < 7 → F i a = 0) ∧ (∀ a, a < 11 → S a = 0) ∧ h' = ga_ov h Z c 65 ∧ r0 = none) 0 0) 2 [some (.ref (Z 2)), some (.int (nI i)), x2] [] (ga_ov h Z c 65) 0 0 := by
  intro g
  induction g with
  | zero =>
    intro i c F x2 hi hI hlo
    refine gr_iload_n dX1_empty_2 rfl (gr_iconst (v := nI 4) dX1_empty_3 rfl ?_)
    refine gr_icmpgtN 36 dX1_empty_4 (by decide) (by omega) (by omega) (fun _ => ?_) (fun z => absurd z (by omega))
    refine gr_iconst (v := nI 0) dX1_empty_36 rfl (gr_istore_n dX1_empty_37 (by decide) rfl ?_)
    exact c_em_side l E d h Z hZ o tr zk kn mt bc n0 rv pa ba bs bv sn kv y zn zf cn cf F (fun k hk a ha => hlo k (by omega) a ha) _ 11 0 c S (by omega) hI (fun j hj => absurd hj (by omega))
  | succ g ih =>
    intro i c F x2 hi hI hlo
    refine gr_iload_n dX1_empty_2 rfl (gr_iconst (v := nI 4) dX1_empty_3 rfl ?_)
    refine gr_icmpgtN 36 dX1_empty_4 (by decide) (by omega) (by omega) (fun z => absurd z (by omega)) (fun _ => ?_)
    refine gr_iconst (v := nI 0) dX1_empty_7 rfl (gr_istore_n dX1_empty_8 (by decide) rfl ?_)
    refine c_em_inner l E d h Z hZ o tr zk kn mt bc n0 rv pa ba bs bv sn kv y zn zf cn cf S i (by omega) (fun c2 F2 y2 hI2 hlo2 => ?_) 7 0 c F (by omega) hI hlo (fun j hj => absurd hj (by omega))
    refine gr_iinc (v := nI (_ + 1)) dX1_empty_30 rfl (nI_1 _) (by decide) rfl ?_
    refine gr_goto 2 dX1_empty_33 (by decide) ?_
    exact ih (i + 1) c2 F2 _ (by omega) hI2 hlo2

set_option maxHeartbeats 4000000 in
set_option maxRecDepth 100000 in
theorem c_empty (l : Launch) (E : ga_E) (d : Nat) (h : ga_H) (Z : Nat → Nat) (hZ : ga_inj Z 65) (o : Nat) (F : Nat → Nat → zp) (S : Nat → zp) (tr : Nat → zp) (zk : Bool) (kn : Bool) (mt : Bool) (bc : Nat) (n0 : Nat) (rv : Nat → zp) (pa : Nat → zp) (ba : Nat → zp) (bs : Nat → Nat) (bv : Nat → Nat → zp) (sn : Nat) (kv : Nat) (y : Nat → zp) (zn : Nat) (zf : Nat → zp) (cn : Nat) (cf : Nat → zp) (c : Nat → va_E) (hI : coI E Z c o F S tr zk kn mt bc n0 rv pa ba bs bv sn kv y zn zf cn cf) : ga_Ok l E d mX1_empty [.ref (Z 2)] (ga_ov h Z c 65) 0 0 (fun r0 h' => ∃ (c : Nat → va_E) (F : Nat → Nat → zp) (S : Nat → zp), coI E Z c o F S tr zk kn mt bc n0 rv pa ba bs bv sn kv y zn zf cn cf ∧ (∀ i, i < 5 → ∀ a, a < 7 → F i a = 0) ∧ (∀ a, a < 11 → S a = 0) ∧ h' = ga_ov h Z c 65 ∧ r0 = none) := by
  refine ga_Ok.of 2 _ (by decide) rfl (Nat.le_of_ble_eq_true rfl) rfl ?_
  refine gr_iconst (v := nI 0) dX1_empty_0 rfl ?_
  refine gr_istore_n dX1_empty_1 (by decide) rfl ?_
  exact c_em_outer l E d h Z hZ o tr zk kn mt bc n0 rv pa ba bs bv sn kv y zn zf cn cf S 5 0 c F _ (by omega) hI (fun k hk => absurd hk (by omega))

set_option maxHeartbeats 4000000 in
set_option maxRecDepth 100000 in
theorem c_clr_loop (l : Launch) (E : ga_E) (d : Nat) (h : ga_H) (Z : Nat → Nat) (hZ : ga_inj Z 65) (o : Nat) (F : Nat → Nat → zp) (S : Nat → zp) (zk : Bool) (kn : Bool) (mt : Bool) (bc : Nat) (n0 : Nat) (rv : Nat → zp) (pa : Nat → zp) (ba : Nat → zp) (bs : Nat → Nat) (bv : Nat → Nat → zp) (y : Nat → zp) (zn : Nat) (zf : Nat → zp) (cn : Nat) (cf : Nat → zp) (hF : ∀ i, i < 5 → ∀ a, a < 7 → F i a = 0) (hS : ∀ a, a < 11 → S a = 0) : ∀ (g b0 : Nat) (c : Nat → va_E) (tr : Nat → zp), b0 + g = 13 → coI E Z c o F S tr zk kn mt bc n0 rv pa ba bs bv 0 0 y zn zf cn cf → (∀ j, j < b0 → tr j = 0) → ga_G l E mX8_clear (ga_Rm (d + 2) 0 0) (ga_Z E (fun r0 h' => ∃ (c : Nat → va_E) (F : Nat → Nat → zp) (S tr : Nat → zp), coI E Z c o F S tr false false mt bc n0 rv pa ba bs bv 0 0 y zn zf cn cf ∧ (∀ i, i < 5 → ∀ a, a < 7 → F i a = 0) ∧ (∀ a, a < 11 → S a = 0) ∧ (∀ a, a < 13 → tr a = 0) ∧ h' = ga_ov h Z c 65 ∧ r0 = none) 0 0) 16 [some (.ref (Z 0)), some (.int (nI b0))] [] (ga_ov h Z c 65) 0 0 := by
  intro g
  induction g with
  | zero =>
    intro b0 c tr hb0 hI hlt
    refine gr_iload_n dX8_clear_16 rfl (gr_bipush (v := nI 13) dX8_clear_17 (by decide) ?_)
    refine gr_icmpgeN 35 dX8_clear_19 (by decide) (by omega) (by omega) (fun _ => ?_) (fun z => absurd z (by omega))
    refine gr_aload_n dX8_clear_35 rfl ?_
    refine gr_callV dX8_clear_36 (c_forget l E d h Z hZ o F S tr zk kn mt bc n0 rv pa ba bs bv 0 0 y zn zf cn cf _ hI) ysX8_forgetConclusions ⟨ml_X8_192, im_X8_forgetConclusions, sl_X8_forgetConclusions⟩ (co_ra hZ hI) (show vwCl[8]? = some (RX8, TX8, _) from rfl) rfl rfl (Nat.le_of_ble_eq_true rfl) ⟨(Nat.le_refl _), (Nat.le_refl _)⟩ ⟨(Nat.le_refl _), (Nat.le_refl _)⟩ (fun r0 h1 hp9 => ?_)
    obtain ⟨c2, hI2, rfl, rfl⟩ := hp9
    exact gr_return dX8_clear_39 rfl (Nat.le_refl _) (Nat.le_refl _) ⟨c2, F, S, tr, hI2, hF, hS, fun a ha => hlt a (by omega), rfl, rfl⟩
  | succ g ih =>
    intro b0 c tr hb0 hI hlt
    refine gr_iload_n dX8_clear_16 rfl (gr_bipush (v := nI 13) dX8_clear_17 (by decide) ?_)
    refine gr_icmpgeN 35 dX8_clear_19 (by decide) (by omega) (by omega) (fun z => absurd z (by omega)) (fun _ => ?_)
    refine gr_aload_n dX8_clear_22 rfl ?_
    refine gr_getf dX8_clear_23 cls_X8 6 (by decide) fl_X8_55 (co_ra hZ hI) rfl ?_
    refine gr_iload_n dX8_clear_26 rfl ?_
    refine gr_iconst (v := nI (0 : zp).val) dX8_clear_27 rfl ?_
    refine gr_iastoreF (x := 0) dX8_clear_28 (co_tr hZ hI) (by omega) (by decide) ?_
    refine gr_h (up_blk hZ (by omega)) ?_
    refine gr_iinc (v := nI (_ + 1)) dX8_clear_29 rfl (nI_1 _) (by decide) rfl ?_
    refine gr_goto 16 dX8_clear_32 (by decide) ?_
    refine ih (b0 + 1) _ _ (by omega) (cu_tr hI _) (fun j hj => ?_)
    by_cases e : j = b0
    · rw [e, va_us]
    · rw [va_un e]; exact hlt j (by omega)

set_option maxHeartbeats 4000000 in
set_option maxRecDepth 100000 in
theorem c_clear (l : Launch) (E : ga_E) (d : Nat) (h : ga_H) (Z : Nat → Nat) (hZ : ga_inj Z 65) (o : Nat) (F : Nat → Nat → zp) (S : Nat → zp) (tr : Nat → zp) (zk : Bool) (kn : Bool) (mt : Bool) (bc : Nat) (n0 : Nat) (rv : Nat → zp) (pa : Nat → zp) (ba : Nat → zp) (bs : Nat → Nat) (bv : Nat → Nat → zp) (sn : Nat) (kv : Nat) (y : Nat → zp) (zn : Nat) (zf : Nat → zp) (cn : Nat) (cf : Nat → zp) (c : Nat → va_E) (hI : coI E Z c o F S tr zk kn mt bc n0 rv pa ba bs bv sn kv y zn zf cn cf) : ga_Ok l E (d + 2) mX8_clear [.ref (Z 0)] (ga_ov h Z c 65) 0 0 (fun r0 h' => ∃ (c : Nat → va_E) (F : Nat → Nat → zp) (S tr : Nat → zp), coI E Z c o F S tr false false mt bc n0 rv pa ba bs bv 0 0 y zn zf cn cf ∧ (∀ i, i < 5 → ∀ a, a < 7 → F i a = 0) ∧ (∀ a, a < 11 → S a = 0) ∧ (∀ a, a < 13 → tr a = 0) ∧ h' = ga_ov h Z c 65 ∧ r0 = none) := by
  refine ga_Ok.of 1 _ (by decide) rfl (Nat.le_of_ble_eq_true rfl) rfl ?_
  refine gr_aload_n dX8_clear_0 rfl ?_
  refine gr_getf dX8_clear_1 cls_X8 0 (by decide) fl_X8_23 (co_ra hZ hI) rfl ?_
  refine gr_callV dX8_clear_4 (c_empty l E (d + 1) h Z hZ o F S tr zk kn mt bc n0 rv pa ba bs bv sn kv y zn zf cn cf c hI) ysX1_empty ⟨ml_X8_188, im_X1_empty, sl_X1_empty⟩ (eq_0 (co_eq hZ hI)) (show vwCl[3]? = some (RX1, TX1, _) from rfl) rfl rfl (Nat.le_of_ble_eq_true rfl) ⟨(Nat.le_refl _), (Nat.le_refl _)⟩ ⟨(Nat.le_refl _), (Nat.le_refl _)⟩ (fun r0 h1 hp9 => ?_)
  obtain ⟨c1, F1, S1, hI1, hF1, hS1, rfl, rfl⟩ := hp9
  refine gr_aload_n dX8_clear_7 rfl ?_
  refine gr_getf dX8_clear_8 cls_X8 3 (by decide) fl_X8_44 (co_ra hZ hI1) rfl ?_
  refine gr_h (co_vs hZ hI1) ?_
  refine gr_callV dX8_clear_11 (c_vEmpty l E (d + 1) _ (Z 56) (Z 57) sn kv y (Zne hZ (by omega) (by omega) (by omega))) ysX7_empty ⟨ml_X8_191, im_X7_empty, sl_X7_empty⟩ vh_0 (show vwCl[7]? = some (RX7, TX7, _) from rfl) rfl rfl (Nat.le_of_ble_eq_true rfl) ⟨(Nat.le_refl _), (Nat.le_refl _)⟩ ⟨(Nat.le_refl _), (Nat.le_refl _)⟩ (fun r0 h1 hp9 => ?_)
  obtain ⟨rfl, rfl⟩ := hp9
  refine gr_h (co_vb hZ 0 0 y) ?_
  have hI2 := cu_v0 (cu_v1 hI1 y) 0 0
  refine gr_iconst (v := nI 0) dX8_clear_14 rfl ?_
  refine gr_istore_n dX8_clear_15 (by decide) rfl ?_
  exact c_clr_loop l E d h Z hZ o F1 S1 zk kn mt bc n0 rv pa ba bs bv y zn zf cn cf hF1 hS1 13 0 _ tr (by omega) hI2 (fun j hj => absurd hj (by omega))

set_option maxHeartbeats 4000000 in
set_option maxRecDepth 100000 in
theorem c_polynomials (l : Launch) (hl0 : l.stackTraces = false) (E : ga_E) (d : Nat) (h : ga_H) (Z : Nat → Nat) (hZ : ga_inj Z 65) (o : Nat) (F : Nat → Nat → zp) (S : Nat → zp) (tr : Nat → zp) (zk : Bool) (kn : Bool) (mt : Bool) (bc : Nat) (n0 : Nat) (rv : Nat → zp) (pa : Nat → zp) (ba : Nat → zp) (bs : Nat → Nat) (bv : Nat → Nat → zp) (sn : Nat) (kv : Nat) (y : Nat → zp) (zn : Nat) (zf : Nat → zp) (cn : Nat) (cf : Nat → zp) (c : Nat → va_E) (hI : coI E Z c o F S tr zk kn mt bc n0 rv pa ba bs bv sn kv y zn zf cn cf) : ga_OkX l E (d + 8) mX8_polynomials [.ref (Z 0)] (ga_ov h Z c 65) 1 6 (fun r0 h' => cdK kn = 0 ∧ h' = ga_ov h Z c 65 ∧ r0 = some (.int (nI n0))) (fun Y h' => Y = nmS ∧ cdK kn = 1 ∧ h' = ga_ov h Z c 65) := by
  refine ga_OkX.of 0 _ (by decide) rfl (Nat.le_of_ble_eq_true rfl) rfl ?_
  refine gr_aload_n dX8_polynomials_0 rfl ?_
  refine gr_callVX dX8_polynomials_1 (c_reqAns l hl0 E d h Z hZ o F S tr zk kn mt bc n0 rv pa ba bs bv sn kv y zn zf cn cf c hI) ysX8_requireAnswers ⟨ml_X8_115, im_X8_requireAnswers, sl_X8_requireAnswers⟩ (co_ra hZ hI) (show vwCl[8]? = some (RX8, TX8, _) from rfl) rfl rfl (Nat.le_of_ble_eq_true rfl) ⟨(Nat.le_refl _), (Nat.le_refl _)⟩ ⟨(Nat.le_of_ble_eq_true rfl), (Nat.le_of_ble_eq_true rfl)⟩ (fun Y h' hp => gt_out rfl (⟨hp.1, by rw [hp.2.1]; rfl, hp.2.2⟩) (Nat.le_of_ble_eq_true rfl) (Nat.le_of_ble_eq_true rfl)) (fun r0 h1 hp9 => ?_)
  obtain ⟨hkn, e1, rfl⟩ := hp9
  subst h1
  refine gr_aload_n dX8_polynomials_4 rfl ?_
  refine gr_getf dX8_polynomials_5 cls_X8 2 (by decide) fl_X8_37 (co_ra hZ hI) rfl ?_
  refine gr_getf dX8_polynomials_8 cls_X0 3 (by decide) fl_X8_118 (co_an hZ hI) rfl ?_
  refine gr_getf dX8_polynomials_11 cls_X6 1 (by decide) fl_X8_122 (co_r0 hZ hI) rfl ?_
  exact gr_X (gr_ireturn dX8_polynomials_14 rfl (Nat.le_of_ble_eq_true rfl) (Nat.le_of_ble_eq_true rfl) ⟨by rw [hkn]; rfl, rfl, rfl⟩)

set_option maxHeartbeats 4000000 in
set_option maxRecDepth 100000 in
theorem c_meets (l : Launch) (hl0 : l.stackTraces = false) (E : ga_E) (d : Nat) (h : ga_H) (Z : Nat → Nat) (hZ : ga_inj Z 65) (o : Nat) (F : Nat → Nat → zp) (S : Nat → zp) (tr : Nat → zp) (zk : Bool) (kn : Bool) (mt : Bool) (bc : Nat) (n0 : Nat) (rv : Nat → zp) (pa : Nat → zp) (ba : Nat → zp) (bs : Nat → Nat) (bv : Nat → Nat → zp) (sn : Nat) (kv : Nat) (y : Nat → zp) (zn : Nat) (zf : Nat → zp) (cn : Nat) (cf : Nat → zp) (c : Nat → va_E) (hI : coI E Z c o F S tr zk kn mt bc n0 rv pa ba bs bv sn kv y zn zf cn cf) : ga_OkX l E (d + 8) mX8_meets [.ref (Z 0)] (ga_ov h Z c 65) 1 6 (fun r0 h' => cdK kn = 0 ∧ h' = ga_ov h Z c 65 ∧ r0 = some (.int (bI mt))) (fun Y h' => Y = nmS ∧ cdK kn = 1 ∧ h' = ga_ov h Z c 65) := by
  refine ga_OkX.of 0 _ (by decide) rfl (Nat.le_of_ble_eq_true rfl) rfl ?_
  refine gr_aload_n dX8_meets_0 rfl ?_
  refine gr_callVX dX8_meets_1 (c_reqAns l hl0 E d h Z hZ o F S tr zk kn mt bc n0 rv pa ba bs bv sn kv y zn zf cn cf c hI) ysX8_requireAnswers ⟨ml_X8_115, im_X8_requireAnswers, sl_X8_requireAnswers⟩ (co_ra hZ hI) (show vwCl[8]? = some (RX8, TX8, _) from rfl) rfl rfl (Nat.le_of_ble_eq_true rfl) ⟨(Nat.le_refl _), (Nat.le_refl _)⟩ ⟨(Nat.le_of_ble_eq_true rfl), (Nat.le_of_ble_eq_true rfl)⟩ (fun Y h' hp => gt_out rfl (⟨hp.1, by rw [hp.2.1]; rfl, hp.2.2⟩) (Nat.le_of_ble_eq_true rfl) (Nat.le_of_ble_eq_true rfl)) (fun r0 h1 hp9 => ?_)
  obtain ⟨hkn, e1, rfl⟩ := hp9
  subst h1
  refine gr_aload_n dX8_meets_4 rfl ?_
  refine gr_getf dX8_meets_5 cls_X8 2 (by decide) fl_X8_37 (co_ra hZ hI) rfl ?_
  refine gr_getf dX8_meets_8 cls_X0 4 (by decide) fl_X8_130 (co_an hZ hI) rfl ?_
  cases mt
  · exact gr_X (gr_zreturn dX8_meets_11 rfl rfl (Nat.le_of_ble_eq_true rfl) (Nat.le_of_ble_eq_true rfl) ⟨by rw [hkn]; rfl, rfl, rfl⟩)
  · exact gr_X (gr_zreturn dX8_meets_11 rfl rfl (Nat.le_of_ble_eq_true rfl) (Nat.le_of_ble_eq_true rfl) ⟨by rw [hkn]; rfl, rfl, rfl⟩)

set_option maxHeartbeats 4000000 in
set_option maxRecDepth 100000 in
theorem c_powers (l : Launch) (hl0 : l.stackTraces = false) (E : ga_E) (d : Nat) (h : ga_H) (Z : Nat → Nat) (hZ : ga_inj Z 65) (o : Nat) (F : Nat → Nat → zp) (S : Nat → zp) (tr : Nat → zp) (zk : Bool) (kn : Bool) (mt : Bool) (bc : Nat) (n0 : Nat) (rv : Nat → zp) (pa : Nat → zp) (ba : Nat → zp) (bs : Nat → Nat) (bv : Nat → Nat → zp) (sn : Nat) (kv : Nat) (y : Nat → zp) (zn : Nat) (zf : Nat → zp) (cn : Nat) (cf : Nat → zp) (c : Nat → va_E) (hI : coI E Z c o F S tr zk kn mt bc n0 rv pa ba bs bv sn kv y zn zf cn cf) : ga_OkX l E (d + 8) mX8_powers [.ref (Z 0)] (ga_ov h Z c 65) 1 6 (fun r0 h' => cdK kn = 0 ∧ h' = ga_ov h Z c 65 ∧ r0 = some (.int (nI bc))) (fun Y h' => Y = nmS ∧ cdK kn = 1 ∧ h' = ga_ov h Z c 65) := by
  refine ga_OkX.of 0 _ (by decide) rfl (Nat.le_of_ble_eq_true rfl) rfl ?_
  refine gr_aload_n dX8_powers_0 rfl ?_
  refine gr_callVX dX8_powers_1 (c_reqAns l hl0 E d h Z hZ o F S tr zk kn mt bc n0 rv pa ba bs bv sn kv y zn zf cn cf c hI) ysX8_requireAnswers ⟨ml_X8_115, im_X8_requireAnswers, sl_X8_requireAnswers⟩ (co_ra hZ hI) (show vwCl[8]? = some (RX8, TX8, _) from rfl) rfl rfl (Nat.le_of_ble_eq_true rfl) ⟨(Nat.le_refl _), (Nat.le_refl _)⟩ ⟨(Nat.le_of_ble_eq_true rfl), (Nat.le_of_ble_eq_true rfl)⟩ (fun Y h' hp => gt_out rfl (⟨hp.1, by rw [hp.2.1]; rfl, hp.2.2⟩) (Nat.le_of_ble_eq_true rfl) (Nat.le_of_ble_eq_true rfl)) (fun r0 h1 hp9 => ?_)
  obtain ⟨hkn, e1, rfl⟩ := hp9
  subst h1
  refine gr_aload_n dX8_powers_4 rfl ?_
  refine gr_getf dX8_powers_5 cls_X8 2 (by decide) fl_X8_37 (co_ra hZ hI) rfl ?_
  refine gr_getf dX8_powers_8 cls_X0 6 (by decide) fl_X8_141 (co_an hZ hI) rfl ?_
  exact gr_X (gr_ireturn dX8_powers_11 rfl (Nat.le_of_ble_eq_true rfl) (Nat.le_of_ble_eq_true rfl) ⟨by rw [hkn]; rfl, rfl, rfl⟩)

set_option maxHeartbeats 4000000 in
set_option maxRecDepth 100000 in
theorem c_base (l : Launch) (hl0 : l.stackTraces = false) (E : ga_E) (d : Nat) (h : ga_H) (Z : Nat → Nat) (hZ : ga_inj Z 65) (o : Nat) (F : Nat → Nat → zp) (S : Nat → zp) (tr : Nat → zp) (zk : Bool) (kn : Bool) (mt : Bool) (bc : Nat) (n0 : Nat) (rv : Nat → zp) (pa : Nat → zp) (ba : Nat → zp) (bs : Nat → Nat) (bv : Nat → Nat → zp) (sn : Nat) (kv : Nat) (y : Nat → zp) (zn : Nat) (zf : Nat → zp) (cn : Nat) (cf : Nat → zp) (c : Nat → va_E) (hI : coI E Z c o F S tr zk kn mt bc n0 rv pa ba bs bv sn kv y zn zf cn cf) (hbc : bc ≤ 4) (k : Int32) : ga_OkX l E (d + 8) mX8_base [.ref (Z 0), .int k] (ga_ov h Z c 65) 1 6 (fun r0 h' => cdK kn = 0 ∧ h' = ga_ov h Z c 65 ∧ r0 = some (.int (if ltR k bc = true then nI (ba (ix k)).val else -1))) (fun Y h' => Y = nmS ∧ cdK kn = 1 ∧ h' = ga_ov h Z c 65) := by
  refine ga_OkX.of 0 _ (by decide) rfl (Nat.le_of_ble_eq_true rfl) rfl ?_
  refine gr_aload_n dX8_base_0 rfl ?_
  refine gr_callVX dX8_base_1 (c_reqAns l hl0 E d h Z hZ o F S tr zk kn mt bc n0 rv pa ba bs bv sn kv y zn zf cn cf c hI) ysX8_requireAnswers ⟨ml_X8_115, im_X8_requireAnswers, sl_X8_requireAnswers⟩ (co_ra hZ hI) (show vwCl[8]? = some (RX8, TX8, _) from rfl) rfl rfl (Nat.le_of_ble_eq_true rfl) ⟨(Nat.le_refl _), (Nat.le_refl _)⟩ ⟨(Nat.le_of_ble_eq_true rfl), (Nat.le_of_ble_eq_true rfl)⟩ (fun Y h' hp => gt_out rfl (⟨hp.1, by rw [hp.2.1]; rfl, hp.2.2⟩) (Nat.le_of_ble_eq_true rfl) (Nat.le_of_ble_eq_true rfl)) (fun r0 h1 hp9 => ?_)
  obtain ⟨hkn, e1, rfl⟩ := hp9
  subst h1
  refine gr_aload_n dX8_base_4 rfl ?_
  refine gr_getf dX8_base_5 cls_X8 2 (by decide) fl_X8_37 (co_ra hZ hI) rfl ?_
  refine gr_iload_n dX8_base_8 rfl ?_
  refine gr_callV dX8_base_9 (c_hasBase l E (d + 7) _ Z kn mt bc hbc (Z 34) (co_an hZ hI) k) ysX0_hasBase ⟨ml_X8_144, im_X0_hasBase, sl_X0_hasBase⟩ (co_an hZ hI) (show vwCl[2]? = some (RX0, TX0, _) from rfl) rfl rfl (Nat.le_of_ble_eq_true rfl) ⟨(Nat.le_refl _), (Nat.le_refl _)⟩ ⟨(Nat.le_of_ble_eq_true rfl), (Nat.le_of_ble_eq_true rfl)⟩ (fun r0 h1 hp9 => ?_)
  obtain ⟨e1, rfl⟩ := hp9
  subst h1
  cases hlt : ltR k bc with
  | false =>
    refine gr_ifeq 27 dX8_base_12 (by decide) (fun _ => ?_) (fun z => absurd rfl z)
    refine gr_iconst (v := -1) dX8_base_27 (by decide) ?_
    exact gr_X (gr_ireturn dX8_base_28 rfl (Nat.le_of_ble_eq_true rfl) (Nat.le_of_ble_eq_true rfl) ⟨by rw [hkn]; rfl, rfl, rfl⟩)
  | true =>
    obtain ⟨j, hjb, hj, rfl⟩ := ltR_of hlt (by omega)
    have hjb4 : j < 4 := by omega
    refine gr_ifeq 27 dX8_base_12 (by decide) (fun z => absurd z (by decide)) (fun _ => ?_)
    refine gr_aload_n dX8_base_15 rfl ?_
    refine gr_getf dX8_base_16 cls_X8 2 (by decide) fl_X8_37 (co_ra hZ hI) rfl ?_
    refine gr_getf dX8_base_19 cls_X0 7 (by decide) fl_X8_148 (co_an hZ hI) rfl ?_
    refine gr_iload_n dX8_base_22 rfl ?_
    refine gr_ialoadF dX8_base_23 (co_ba hZ hI) (by omega) (by decide) ?_
    refine gr_goto 28 dX8_base_24 (by decide) ?_
    exact gr_X (gr_ireturn dX8_base_28 rfl (Nat.le_of_ble_eq_true rfl) (Nat.le_of_ble_eq_true rfl) ⟨by rw [hkn]; rfl, rfl, by rw [if_pos rfl, ix_nI hj]⟩)

set_option maxHeartbeats 4000000 in
set_option maxRecDepth 100000 in
theorem c_many (l : Launch) (hl0 : l.stackTraces = false) (E : ga_E) (d : Nat) (h : ga_H) (Z : Nat → Nat) (hZ : ga_inj Z 65) (o : Nat) (F : Nat → Nat → zp) (S : Nat → zp) (tr : Nat → zp) (zk : Bool) (kn : Bool) (mt : Bool) (bc : Nat) (n0 : Nat) (rv : Nat → zp) (pa : Nat → zp) (ba : Nat → zp) (bs : Nat → Nat) (bv : Nat → Nat → zp) (sn : Nat) (kv : Nat) (y : Nat → zp) (zn : Nat) (zf : Nat → zp) (cn : Nat) (cf : Nat → zp) (c : Nat → va_E) (hI : coI E Z c o F S tr zk kn mt bc n0 rv pa ba bs bv sn kv y zn zf cn cf) (hbc : bc ≤ 4) (k : Int32) : ga_OkX l E (d + 8) mX8_many [.ref (Z 0), .int k] (ga_ov h Z c 65) 1 6 (fun r0 h' => cdK kn = 0 ∧ h' = ga_ov h Z c 65 ∧ r0 = some (.int (if ltR k bc = true then nI (bs (ix k)) else -1))) (fun Y h' => Y = nmS ∧ cdK kn = 1 ∧ h' = ga_ov h Z c 65) := by
  refine ga_OkX.of 0 _ (by decide) rfl (Nat.le_of_ble_eq_true rfl) rfl ?_
  refine gr_aload_n dX8_many_0 rfl ?_
  refine gr_callVX dX8_many_1 (c_reqAns l hl0 E d h Z hZ o F S tr zk kn mt bc n0 rv pa ba bs bv sn kv y zn zf cn cf c hI) ysX8_requireAnswers ⟨ml_X8_115, im_X8_requireAnswers, sl_X8_requireAnswers⟩ (co_ra hZ hI) (show vwCl[8]? = some (RX8, TX8, _) from rfl) rfl rfl (Nat.le_of_ble_eq_true rfl) ⟨(Nat.le_refl _), (Nat.le_refl _)⟩ ⟨(Nat.le_of_ble_eq_true rfl), (Nat.le_of_ble_eq_true rfl)⟩ (fun Y h' hp => gt_out rfl (⟨hp.1, by rw [hp.2.1]; rfl, hp.2.2⟩) (Nat.le_of_ble_eq_true rfl) (Nat.le_of_ble_eq_true rfl)) (fun r0 h1 hp9 => ?_)
  obtain ⟨hkn, e1, rfl⟩ := hp9
  subst h1
  refine gr_aload_n dX8_many_4 rfl ?_
  refine gr_getf dX8_many_5 cls_X8 2 (by decide) fl_X8_37 (co_ra hZ hI) rfl ?_
  refine gr_iload_n dX8_many_8 rfl ?_
  refine gr_callV dX8_many_9 (c_hasBase l E (d + 7) _ Z kn mt bc hbc (Z 34) (co_an hZ hI) k) ysX0_hasBase ⟨ml_X8_144, im_X0_hasBase, sl_X0_hasBase⟩ (co_an hZ hI) (show vwCl[2]? = some (RX0, TX0, _) from rfl) rfl rfl (Nat.le_of_ble_eq_true rfl) ⟨(Nat.le_refl _), (Nat.le_refl _)⟩ ⟨(Nat.le_of_ble_eq_true rfl), (Nat.le_of_ble_eq_true rfl)⟩ (fun r0 h1 hp9 => ?_)
  obtain ⟨e1, rfl⟩ := hp9
  subst h1
  cases hlt : ltR k bc with
  | false =>
    refine gr_ifeq 30 dX8_many_12 (by decide) (fun _ => ?_) (fun z => absurd rfl z)
    refine gr_iconst (v := -1) dX8_many_30 (by decide) ?_
    exact gr_X (gr_ireturn dX8_many_31 rfl (Nat.le_of_ble_eq_true rfl) (Nat.le_of_ble_eq_true rfl) ⟨by rw [hkn]; rfl, rfl, rfl⟩)
  | true =>
    obtain ⟨j, hjb, hj, rfl⟩ := ltR_of hlt (by omega)
    have hjb4 : j < 4 := by omega
    refine gr_ifeq 30 dX8_many_12 (by decide) (fun z => absurd z (by decide)) (fun _ => ?_)
    refine gr_aload_n dX8_many_15 rfl ?_
    refine gr_getf dX8_many_16 cls_X8 2 (by decide) fl_X8_37 (co_ra hZ hI) rfl ?_
    refine gr_getf dX8_many_19 cls_X0 8 (by decide) fl_X8_151 (co_an hZ hI) rfl ?_
    refine gr_iload_n dX8_many_22 rfl ?_
    refine gr_aaloadR dX8_many_23 (co_br hZ hI) (by omega) (by decide) (rwR_at (by omega)) ?_
    refine gr_getf dX8_many_24 cls_X6 1 (by decide) fl_X8_122 (co_ro hZ hI hjb4) rfl ?_
    refine gr_goto 31 dX8_many_27 (by decide) ?_
    exact gr_X (gr_ireturn dX8_many_31 rfl (Nat.le_of_ble_eq_true rfl) (Nat.le_of_ble_eq_true rfl) ⟨by rw [hkn]; rfl, rfl, by rw [if_pos rfl, ix_nI hj]⟩)
