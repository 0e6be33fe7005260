/-! Answers: findBases, find -/
theorem ptI_px {C : Nat → Nat → zp} {pv : Nat → Option Nat} {q : Nat → zp} {j : Nat} (hj : j < 13) : ptI C pv q 13 j = px C pv j := by
  unfold ptI px
  rw [if_pos hj, if_pos hj]
  cases pv j <;> rfl
theorem rwR_at {Z : Nat → Nat} {i : Nat} (h : i < 4) : rwR Z i = some (Z (48 + 2 * i)) := if_pos h
theorem roAt_in {n k : Nat} {f : Nat → zp} (hk : k < n) (hn : n ≤ 6) : roAt n f (nI k) = nI (f k).val := by
  unfold roAt
  rw [if_neg (nI_pos (by omega)), if_neg (nI_ge hk (by omega)), nI_clamp (by omega)]
theorem pdeg_congr {v w : Nat → zp} : ∀ {n : Nat}, (∀ j, j < n → v j = w j) → pdeg v n = pdeg w n
  | 0, _ => rfl
  | n + 1, h => by
    unfold pdeg
    rw [h n (by omega), pdeg_congr (n := n) (fun j hj => h j (by omega))]
theorem Zne {Z : Nat → Nat} (hZ : ga_inj Z 65) {i j : Nat} (hi : i < 65) (hj : j < 65) (e : i ≠ j) : Z i ≠ Z j := hZ.ne hi hj e

theorem co_c0 {E : ga_E} {h : ga_H} {Z : Nat → Nat} {c : Nat → va_E} {o : Nat} {F : Nat → Nat → zp} {S : Nat → zp} {tr : Nat → zp} {zk : Bool} {kn : Bool} {mt : Bool} {bc : Nat} {n0 : Nat} {rv : Nat → zp} {pa : Nat → zp} {ba : Nat → zp} {bs : Nat → Nat} {bv : Nat → Nat → zp} {sn : Nat} {kv : Nat} {y : Nat → zp} {zn : Nat} {zf : Nat → zp} {cn : Nat} {cf : Nat → zp} (hZ : ga_inj Z 65) (h0 : coI E Z c o F S tr zk kn mt bc n0 rv pa ba bs bv sn kv y zn zf cn cf) : ga_ov h Z c 65 (Z 35) = some (ga_o 5 [.ref (Z 36), .ref (Z 37), .ref (Z 38), .ref (Z 39), .ref (Z 40), .ref (Z 41), .int (nI cn)]) := by
  obtain ⟨r, p, i, w, s, hz, hk⟩ := h0.2.2.2.2.2.1
  exact co_rd hZ (by omega) (hk 0 (by omega))

set_option maxHeartbeats 4000000 in
set_option maxRecDepth 100000 in
theorem c_fb_loop (l : Launch) (E : ga_E) (d : Nat) (h : ga_H) (Z : Nat → Nat) (hZ : ga_inj Z 65) (o : Nat) (F : Nat → Nat → zp) (S : Nat → zp) (tr : Nat → zp) (zk : Bool) (kn : Bool) (mt : Bool) (n0 : Nat) (rv : Nat → zp) (pa : Nat → zp) (sn : Nat) (kv : Nat) (y : Nat → zp) (zn : Nat) (zf : Nat → zp) (cn : Nat) (cf : Nat → zp) (hcn : cn ≤ 4) (hinc : Inc cn cf) (hR : ∀ y, Has cn cf y ↔ ev (tnP F) 7 y = 0) : ∀ (g k : Nat) (c : Nat → va_E) (bc : Nat) (ba : Nat → zp) (bs : Nat → Nat) (bv : Nat → Nat → zp) (x3 : Option Value), k + g = cn → coI E Z c o F S tr zk kn mt bc n0 rv pa ba bs bv sn kv y zn zf cn cf → CB (fun z => fillK F S z 5) cf k bc ba bs bv → ga_G l E mX0_findBases (ga_Rm (d + 6) 0 0) (ga_Z E (fun r0 h' => ∃ (c : Nat → va_E) (bc : Nat) (ba : Nat → zp) (bs : Nat → Nat) (bv : Nat → Nat → zp) (cn : Nat) (cf : Nat → zp), coI E Z c o F S tr zk kn mt bc n0 rv pa ba bs bv sn kv y zn zf cn cf ∧ bc ≤ 4 ∧ ResB (fun z => fillK F S z 5) (fun y => ev (tnP F) 7 y = 0) bc ba bs bv ∧ h' = ga_ov h Z c 65 ∧ r0 = none) 0 0) 7 [some (.ref (Z 34)), some (.ref (Z 2)), some (.ref (Z 10)), some (.int (nI k)), x3] [] (ga_ov h Z c 65) 0 0 := by
  intro g
  induction g with
  | zero =>
    intro k c bc ba bs bv x3 hk hI hCB
    refine gr_iload_n dX0_findBases_7 rfl (gr_aload_n dX0_findBases_8 rfl (gr_getf dX0_findBases_9 cls_X0 0 (by decide) fl_X0_12 (co_an hZ hI) rfl (gr_getf dX0_findBases_12 cls_X5 6 (by decide) fl_X0_79 (co_c0 hZ hI) rfl ?_)))
    refine gr_icmpgeN 110 dX0_findBases_15 (by decide) (by omega) (by omega) (fun _ => ?_) (fun z => absurd z (by omega))
    rw [show k = cn by omega] at hCB
    exact gr_return dX0_findBases_110 rfl (Nat.le_refl _) (Nat.le_refl _) ⟨c, bc, ba, bs, bv, cn, cf, hI, Nat.le_trans hCB.1 hcn, CB_end hCB hR, rfl, rfl⟩
  | succ g ih =>
    intro k c bc ba bs bv x3 hk hI hCB
    have hbk := hCB.1
    refine gr_iload_n dX0_findBases_7 rfl (gr_aload_n dX0_findBases_8 rfl (gr_getf dX0_findBases_9 cls_X0 0 (by decide) fl_X0_12 (co_an hZ hI) rfl (gr_getf dX0_findBases_12 cls_X5 6 (by decide) fl_X0_79 (co_c0 hZ hI) rfl ?_)))
    refine gr_icmpgeN 110 dX0_findBases_15 (by decide) (by omega) (by omega) (fun z => absurd z (by omega)) (fun _ => ?_)
    refine gr_aload_n dX0_findBases_18 rfl ?_
    refine gr_getf dX0_findBases_19 cls_X0 6 (by decide) fl_X0_39 (co_an hZ hI) rfl ?_
    refine gr_iconst (v := nI 4) dX0_findBases_22 rfl ?_
    refine gr_icmpgeN 110 dX0_findBases_23 (by decide) (by omega) (by omega) (fun z => absurd z (by omega)) (fun _ => ?_)
    refine gr_aload_n dX0_findBases_26 rfl ?_
    refine gr_getf dX0_findBases_27 cls_X0 0 (by decide) fl_X0_12 (co_an hZ hI) rfl ?_
    refine gr_iload_n dX0_findBases_30 rfl ?_
    obtain ⟨r9, p9, i9, w9, s9, hz9, hcd9⟩ := co_cd (h := h) hZ hI
    refine gr_h hcd9 ?_
    refine gr_callV dX0_findBases_31 (c_roAt l E (d + 5) _ _ cn cf r9 p9 i9 w9 s9 (inj_sub hZ (by omega)) (by omega) (nI k)) ysX5_at ⟨ml_X0_82, im_X5_at, sl_X5_at⟩ (ro_0 (inj_sub hZ (by omega))) (show vwCl[5]? = some (RX5, TX5, _) from rfl) rfl rfl (Nat.le_of_ble_eq_true rfl) ⟨(Nat.le_refl _), (Nat.le_refl _)⟩ ⟨(Nat.le_refl _), (Nat.le_refl _)⟩ (fun r0 h1 hp9 => ?_)
    obtain ⟨rfl, rfl⟩ := hp9
    refine gr_h hcd9.symm (gr_top (congrArg Value.int (roAt_in (by omega) (by omega))) ?_)
    refine gr_istore dX0_findBases_34 (by decide) rfl ?_
    by_cases hz0 : cf k = 0
    · refine gr_iload dX0_findBases_36 rfl (gr_ifgt 44 dX0_findBases_38 (by decide) (fun z => absurd z (by rw [hz0]; decide)) (fun _ => ?_))
      refine gr_goto 104 dX0_findBases_41 (by decide) ?_
      refine gr_iinc (v := nI (_ + 1)) dX0_findBases_104 rfl (nI_1 _) (by decide) rfl ?_
      refine gr_goto 7 dX0_findBases_107 (by decide) ?_
      exact ih (k + 1) c bc ba bs bv _ (by omega) hI (CB_skip hCB (Or.inl hz0) (fun j hj => ⟨rfl, rfl⟩))
    · have hzv : (cf k).val ≠ 0 := fun z => hz0 (Fin.ext z)
      have hzl := zl (cf k)
      refine gr_iload dX0_findBases_36 rfl (gr_ifgt 44 dX0_findBases_38 (by decide) (fun _ => ?_) (fun z => absurd (Int32.not_le.mp (nI_nle (by omega) (by omega))) z))
      refine gr_aload_n dX0_findBases_44 rfl ?_
      refine gr_aload_n dX0_findBases_45 rfl ?_
      refine gr_iload dX0_findBases_46 rfl ?_
      obtain ⟨C0, u0, pv0, t0, ht0, hls0⟩ := co_ls (h := h) hZ hI
      refine gr_h hls0 ?_
      refine gr_callV dX0_findBases_48 (c_fill l E (d + 3) _ _ (inj_sub hZ (by omega)) u0 pv0 _ o F S (co_eq hZ hI) (fun k hk m hm => Zne hZ (by omega) (by omega) (by omega)) (cf k) C0 t0 ht0) ysX2_fill ⟨ml_X0_43, im_X2_fill, sl_X2_fill⟩ (ls_0 (inj_sub hZ (by omega))) (show vwCl[4]? = some (RX2, TX2, _) from rfl) rfl rfl (Nat.le_of_ble_eq_true rfl) ⟨(Nat.le_refl _), (Nat.le_refl _)⟩ ⟨(Nat.le_refl _), (Nat.le_refl _)⟩ (fun r0 h1 hp9 => ?_)
      obtain ⟨C1, t1, ht1, hC1, rfl, rfl⟩ := hp9
      refine gr_h (co_lsb hZ) ?_
      have hI1 := cu_ls (C := C1) (u := u0) (pv := pv0) hI ht1
      refine gr_aload_n dX0_findBases_51 rfl ?_
      refine gr_h (co_lss hZ (fun k hk => cs_in hk)) ?_
      refine gr_callV dX0_findBases_52 (c_eliminate l E (d + 3) _ _ (inj_sub hZ (by omega)) t1 (EchI (fillK F S (cf k) 5)) (fun c C u pv o hc hi hf => EchI_step c C u pv o hc hi hf) C1 pv0 (fun u hu => EchI_0 hC1 hu) u0) ysX2_eliminate ⟨ml_X0_49, im_X2_eliminate, sl_X2_eliminate⟩ (ls_0 (inj_sub hZ (by omega))) (show vwCl[4]? = some (RX2, TX2, _) from rfl) rfl rfl (Nat.le_of_ble_eq_true rfl) ⟨(Nat.le_refl _), (Nat.le_refl _)⟩ ⟨(Nat.le_refl _), (Nat.le_refl _)⟩ (fun r0 h1 hp9 => ?_)
      obtain ⟨C2, u2, pv2, hE2, rfl, rfl⟩ := hp9
      refine gr_h (co_lsb hZ) ?_
      have hI2 := cu_ls (C := C2) (u := u2) (pv := pv2) hI1 ht1
      refine gr_aload_n dX0_findBases_55 rfl ?_
      refine gr_aload_n dX0_findBases_56 rfl ?_
      refine gr_getf dX0_findBases_57 cls_X0 8 (by decide) fl_X0_35 (co_an hZ hI2) rfl ?_
      refine gr_aload_n dX0_findBases_60 rfl ?_
      refine gr_getf dX0_findBases_61 cls_X0 6 (by decide) fl_X0_39 (co_an hZ hI2) rfl ?_
      refine gr_aaloadR dX0_findBases_64 (co_br hZ hI2) (by omega) (by decide) (rwR_at (by omega)) ?_
      refine gr_h (co_lss hZ (fun k hk => cs_in hk)) ?_
      refine gr_callV dX0_findBases_65 (c_copyRowTo l E (d + 4) _ _ (inj_sub hZ (by omega)) C2 u2 pv2 t1 (Z (48 + 2 * bc)) (Z (49 + 2 * bc)) (Zne hZ (by omega) (by omega) (by omega)) (fun k hk => Zne hZ (by omega) (by omega) (by omega)) (fun k hk => Zne hZ (by omega) (by omega) (by omega)) (ech_rng2 hE2) _ _ (co_ro hZ hI2 (by omega)) (co_rn hZ hI2 (by omega))) ysX2_copyRowTo ⟨ml_X0_52, im_X2_copyRowTo, sl_X2_copyRowTo⟩ (ls_0 (inj_sub hZ (by omega))) (show vwCl[4]? = some (RX2, TX2, _) from rfl) rfl rfl (Nat.le_of_ble_eq_true rfl) ⟨(Nat.le_refl _), (Nat.le_refl _)⟩ ⟨(Nat.le_refl _), (Nat.le_refl _)⟩ (fun r0 h1 hp9 => ?_)
      obtain ⟨v3, hv3, rfl, rfl⟩ := hp9
      refine gr_h (co_rwb hZ (by omega) (by omega) (fun k hk => cs_in hk)) ?_
      have hI3 := cu_ri hI2 bc (cnt pv2 13) (by omega) v3
      refine gr_aload_n dX0_findBases_68 rfl ?_
      refine gr_getf dX0_findBases_69 cls_X0 8 (by decide) fl_X0_35 (co_an hZ hI3) rfl ?_
      refine gr_aload_n dX0_findBases_72 rfl ?_
      refine gr_getf dX0_findBases_73 cls_X0 6 (by decide) fl_X0_39 (co_an hZ hI3) rfl ?_
      refine gr_aaloadR dX0_findBases_76 (co_br hZ hI3) (by omega) (by decide) (rwR_at (by omega)) ?_
      refine gr_getf dX0_findBases_77 cls_X6 1 (by decide) fl_X0_86 (co_ro hZ hI3 (by omega)) rfl (gr_top (congrArg Value.int (show nI (va_up bs bc (cnt pv2 13) bc) = nI (cnt pv2 13) by rw [va_us])) ?_)
      have hc13 := cnt_le pv2 13
      refine gr_ifleN 104 dX0_findBases_80 (by decide) (by omega) (fun c_80 => ?_) (fun c_80 => ?_)
      · refine gr_iinc (v := nI (_ + 1)) dX0_findBases_104 rfl (nI_1 _) (by decide) rfl ?_
        refine gr_goto 7 dX0_findBases_107 (by decide) ?_
        exact ih (k + 1) _ bc ba _ _ _ (by omega) hI3 (CB_skip hCB (Or.inr (Sm.not hE2 c_80)) (fun j hj => ⟨va_un (by omega), va_un (by omega)⟩))
      · refine gr_aload_n dX0_findBases_83 rfl ?_
        refine gr_getf dX0_findBases_84 cls_X0 7 (by decide) fl_X0_32 (co_an hZ hI3) rfl ?_
        refine gr_aload_n dX0_findBases_87 rfl ?_
        refine gr_getf dX0_findBases_88 cls_X0 6 (by decide) fl_X0_39 (co_an hZ hI3) rfl ?_
        refine gr_iload dX0_findBases_91 rfl ?_
        refine gr_iastoreF dX0_findBases_93 (co_ba hZ hI3) (by omega) (by decide) ?_
        refine gr_h (up_blk hZ (by omega)) ?_
        have hI4 := cu_ba hI3 (va_up ba bc (cf k))
        refine gr_aload_n dX0_findBases_94 rfl ?_
        refine gr_dup dX0_findBases_95 rfl ?_
        refine gr_getf dX0_findBases_96 cls_X0 6 (by decide) fl_X0_39 (co_an hZ hI4) rfl ?_
        refine gr_iconst (v := nI 1) dX0_findBases_99 rfl ?_
        refine gr_iaddN dX0_findBases_100 ?_
        refine gr_putf dX0_findBases_101 cls_X0 6 (by decide) fl_X0_39 rfl rfl rfl (Nat.le_of_ble_eq_true rfl) (co_an hZ hI4) ?_
        refine gr_h (up_blk hZ (by omega)) ?_
        have hI5 := cu_an hI4 kn mt (bc + 1)
        refine gr_iinc (v := nI (_ + 1)) dX0_findBases_104 rfl (nI_1 _) (by decide) rfl ?_
        refine gr_goto 7 dX0_findBases_107 (by decide) ?_
        refine ih (k + 1) _ (bc + 1) _ _ _ _ (by omega) hI5 (CB_take hCB hinc (by omega) hz0 ⟨_, _, _, hE2, by omega⟩ (fun j hj => ⟨va_un (by omega), va_un (by omega)⟩) ?_)
        rw [va_us, va_us]
        exact ⟨C2, u2, pv2, hE2, rfl, hv3⟩

set_option maxHeartbeats 4000000 in
set_option maxRecDepth 100000 in
theorem c_findBases (l : Launch) (E : ga_E) (d : Nat) (h : ga_H) (Z : Nat → Nat) (hZ : ga_inj Z 65) (o : Nat) (F : Nat → Nat → zp) (S : Nat → zp) (tr : Nat → zp) (zk : Bool) (kn : Bool) (mt : Bool) (bc : Nat) (n0 : Nat) (rv : Nat → zp) (pa : Nat → zp) (ba : Nat → zp) (bs : Nat → Nat) (bv : Nat → Nat → zp) (sn : Nat) (kv : Nat) (y : Nat → zp) (zn : Nat) (zf : Nat → zp) (cn : Nat) (cf : Nat → zp) (c : Nat → va_E) (hI : coI E Z c o F S tr zk kn mt bc n0 rv pa ba bs bv sn kv y zn zf cn cf) (hcn : cn ≤ 4) (hinc : Inc cn cf) (hR : ∀ y, Has cn cf y ↔ ev (tnP F) 7 y = 0) : ga_Ok l E (d + 6) mX0_findBases [.ref (Z 34), .ref (Z 2), .ref (Z 10)] (ga_ov h Z c 65) 0 0 (fun r0 h' => ∃ (c : Nat → va_E) (bc : Nat) (ba : Nat → zp) (bs : Nat → Nat) (bv : Nat → Nat → zp) (cn : Nat) (cf : Nat → zp), coI E Z c o F S tr zk kn mt bc n0 rv pa ba bs bv sn kv y zn zf cn cf ∧ bc ≤ 4 ∧ ResB (fun z => fillK F S z 5) (fun y => ev (tnP F) 7 y = 0) bc ba bs bv ∧ h' = ga_ov h Z c 65 ∧ r0 = none) := by
  refine ga_Ok.of 2 _ (by decide) rfl (Nat.le_of_ble_eq_true rfl) rfl ?_
  refine gr_aload_n dX0_findBases_0 rfl ?_
  refine gr_iconst (v := nI 0) dX0_findBases_1 rfl ?_
  refine gr_putf dX0_findBases_2 cls_X0 6 (by decide) fl_X0_39 rfl rfl rfl (Nat.le_of_ble_eq_true rfl) (co_an hZ hI) ?_
  refine gr_h (up_blk hZ (by omega)) ?_
  have hI3 := cu_an hI kn mt 0
  refine gr_iconst (v := nI 0) dX0_findBases_5 rfl ?_
  refine gr_istore_n dX0_findBases_6 (by decide) rfl ?_
  exact c_fb_loop l E d h Z hZ o F S tr zk kn mt n0 rv pa sn kv y zn zf cn cf hcn hinc hR _ 0 _ 0 ba bs bv _ (Nat.zero_add _) hI3 CB_0

set_option maxHeartbeats 4000000 in
set_option maxRecDepth 100000 in
theorem c_anFind (l : Launch) (E : ga_E) (d : Nat) (h : ga_H) (Z : Nat → Nat) (hZ : ga_inj Z 65) (o : Nat) (F : Nat → Nat → zp) (S : Nat → zp) (tr : Nat → zp) (zk : Bool) (kn : Bool) (mt : Bool) (bc : Nat) (n0 : Nat) (rv : Nat → zp) (pa : Nat → zp) (ba : Nat → zp) (bs : Nat → Nat) (bv : Nat → Nat → zp) (sn : Nat) (kv : Nat) (y : Nat → zp) (zn : Nat) (zf : Nat → zp) (cn : Nat) (cf : Nat → zp) (c : Nat → va_E) (hI : coI E Z c o F S tr zk kn mt bc n0 rv pa ba bs bv sn kv y zn zf cn cf) (hdm : dmax F 5 ≠ 0) : ga_Ok l E (d + 7) mX0_find [.ref (Z 34), .ref (Z 2), .ref (Z 10)] (ga_ov h Z c 65) 0 0 (fun r0 h' => ∃ (c : Nat → va_E) (mt : Bool) (bc n0 : Nat) (rv pa ba : Nat → zp) (bs : Nat → Nat) (bv : Nat → Nat → zp) (cn : Nat) (cf : Nat → zp), coI E Z c o F S tr zk true mt bc n0 rv pa ba bs bv sn kv y zn zf cn cf ∧ bc ≤ 4 ∧ n0 ≤ 13 ∧ ResP (fillK F S 1 5) n0 rv ∧ ResM (fillK F S 1 5) mt pa ∧ ResB (fun z => fillK F S z 5) (fun y => ev (tnP F) 7 y = 0) bc ba bs bv ∧ h' = ga_ov h Z c 65 ∧ r0 = none) := by
  refine ga_Ok.of 0 _ (by decide) rfl (Nat.le_of_ble_eq_true rfl) rfl ?_
  refine gr_aload_n dX0_find_0 rfl ?_
  refine gr_aload_n dX0_find_1 rfl ?_
  refine gr_iconst (v := nI (1 : zp).val) dX0_find_2 rfl ?_
  obtain ⟨C0, u0, pv0, t0, ht0, hls0⟩ := co_ls (h := h) hZ hI
  refine gr_h hls0 ?_
  refine gr_callV dX0_find_3 (c_fill l E (d + 4) _ _ (inj_sub hZ (by omega)) u0 pv0 _ o F S (co_eq hZ hI) (fun k hk m hm => Zne hZ (by omega) (by omega) (by omega)) 1 C0 t0 ht0) ysX2_fill ⟨ml_X0_43, im_X2_fill, sl_X2_fill⟩ (ls_0 (inj_sub hZ (by omega))) (show vwCl[4]? = some (RX2, TX2, _) from rfl) rfl rfl (Nat.le_of_ble_eq_true rfl) ⟨(Nat.le_refl _), (Nat.le_refl _)⟩ ⟨(Nat.le_refl _), (Nat.le_refl _)⟩ (fun r0 h1 hp9 => ?_)
  obtain ⟨C1, t1, ht1, hC1, rfl, rfl⟩ := hp9
  refine gr_h (co_lsb hZ) ?_
  have hI1 := cu_ls (C := C1) (u := u0) (pv := pv0) hI ht1
  refine gr_aload_n dX0_find_6 rfl ?_
  refine gr_h (co_lss hZ (fun k hk => cs_in hk)) ?_
  refine gr_callV dX0_find_7 (c_eliminate l E (d + 4) _ _ (inj_sub hZ (by omega)) t1 (EchI (fillK F S 1 5)) (fun c C u pv o hc hi hf => EchI_step c C u pv o hc hi hf) C1 pv0 (fun u hu => EchI_0 hC1 hu) u0) ysX2_eliminate ⟨ml_X0_49, im_X2_eliminate, sl_X2_eliminate⟩ (ls_0 (inj_sub hZ (by omega))) (show vwCl[4]? = some (RX2, TX2, _) from rfl) rfl rfl (Nat.le_of_ble_eq_true rfl) ⟨(Nat.le_refl _), (Nat.le_refl _)⟩ ⟨(Nat.le_refl _), (Nat.le_refl _)⟩ (fun r0 h1 hp9 => ?_)
  obtain ⟨C2, u2, pv2, hE2, rfl, rfl⟩ := hp9
  refine gr_h (co_lsb hZ) ?_
  have hI2 := cu_ls (C := C2) (u := u2) (pv := pv2) hI1 ht1
  refine gr_aload_n dX0_find_10 rfl ?_
  refine gr_aload_n dX0_find_11 rfl ?_
  refine gr_getf dX0_find_12 cls_X0 3 (by decide) fl_X0_25 (co_an hZ hI2) rfl ?_
  refine gr_h (co_lss hZ (fun k hk => cs_in hk)) ?_
  refine gr_callV dX0_find_15 (c_copyRowTo l E (d + 5) _ _ (inj_sub hZ (by omega)) C2 u2 pv2 t1 (Z (43)) (Z (44)) (Zne hZ (by omega) (by omega) (by omega)) (fun k hk => Zne hZ (by omega) (by omega) (by omega)) (fun k hk => Zne hZ (by omega) (by omega) (by omega)) (ech_rng2 hE2) _ _ (co_r0 hZ hI2) (co_rv hZ hI2)) ysX2_copyRowTo ⟨ml_X0_52, im_X2_copyRowTo, sl_X2_copyRowTo⟩ (ls_0 (inj_sub hZ (by omega))) (show vwCl[4]? = some (RX2, TX2, _) from rfl) rfl rfl (Nat.le_of_ble_eq_true rfl) ⟨(Nat.le_refl _), (Nat.le_refl _)⟩ ⟨(Nat.le_refl _), (Nat.le_refl _)⟩ (fun r0 h1 hp9 => ?_)
  obtain ⟨v3, hv3, rfl, rfl⟩ := hp9
  refine gr_h (co_rwb hZ (by omega) (by omega) (fun k hk => cs_in hk)) ?_
  have hI3 := cu_r0 hI2 (cnt pv2 13) v3
  refine gr_aload_n dX0_find_18 rfl ?_
  refine gr_aload_n dX0_find_19 rfl ?_
  refine gr_aload_n dX0_find_20 rfl ?_
  refine gr_getf dX0_find_21 cls_X0 5 (by decide) fl_X0_29 (co_an hZ hI3) rfl ?_
  have hk3 : ∀ k, k < 24 → cset (cset (cset (cset c 10 24 (lsC E (fun k => Z (10 + k)) C1 u0 pv0 t1)) 10 24 (lsC E (fun k => Z (10 + k)) C2 u2 pv2 t1)) 44 1 (fun _ => ga_f E 169 v3)) 43 1 (fun _ => ga_o 6 [.ref (Z 44), .int (nI (cnt pv2 13))]) (10 + k) = lsC E (fun k => Z (10 + k)) C2 u2 pv2 t1 k := fun k hk => by rw [cs_out (by omega), cs_out (by omega)]; exact cs_in hk
  refine gr_h (co_lss hZ hk3) ?_
  refine gr_callV dX0_find_24 (c_copyParticularTo l E (d + 6) _ _ (inj_sub hZ (by omega)) C2 u2 pv2 t1 (Z 45) (fun k hk => Zne hZ (by omega) (by omega) (by omega)) pa (ech_rng2 hE2) (co_pa hZ hI3)) ysX2_copyParticularTo ⟨ml_X0_56, im_X2_copyParticularTo, sl_X2_copyParticularTo⟩ (ls_0 (inj_sub hZ (by omega))) (show vwCl[4]? = some (RX2, TX2, _) from rfl) rfl rfl (Nat.le_of_ble_eq_true rfl) ⟨(Nat.le_refl _), (Nat.le_refl _)⟩ ⟨(Nat.le_refl _), (Nat.le_refl _)⟩ (fun r0 h1 hp9 => ?_)
  rcases hp9 with ⟨hbad, rfl, rfl⟩ | ⟨hgood, rfl, rfl⟩
  · refine gr_h (co_lss hZ hk3).symm ?_
    have hres : ResM (fillK F S 1 5) false pa := ⟨C2, u2, pv2, hE2, ⟨fun z => absurd z (by decide), fun z => ?_⟩, fun z => absurd z (by decide)⟩
    · refine gr_putf dX0_find_27 cls_X0 4 (by decide) fl_X0_60 rfl rfl rfl (Nat.le_of_ble_eq_true rfl) (co_an hZ hI3) ?_
      refine gr_h (up_blk hZ (by omega)) ?_
      have hI5 := cu_an hI3 kn false bc
      refine gr_aload_n dX0_find_30 rfl ?_
      refine gr_aload_n dX0_find_31 rfl ?_
      obtain ⟨tn, htn⟩ := hI5.2.2.2.2.2.2.1
      refine gr_callV dX0_find_32 (c_collectTop l E (d + 4) _ Z kn false bc (Z 34) (co_an hZ hI5) (Zne hZ (by omega) (by omega) (by omega)) _ o F S (co_eq hZ hI5) (fun k hk => Zne hZ (by omega) (by omega) (by omega)) tn (co_rd hZ (by omega) htn)) ysX0_collectTopNumbers ⟨ml_X0_64, im_X0_collectTopNumbers, sl_X0_collectTopNumbers⟩ (co_an hZ hI5) (show vwCl[2]? = some (RX0, TX0, _) from rfl) rfl rfl (Nat.le_of_ble_eq_true rfl) ⟨(Nat.le_refl _), (Nat.le_refl _)⟩ ⟨(Nat.le_refl _), (Nat.le_refl _)⟩ (fun r0 h1 hp9 => ?_)
      obtain ⟨w, hw, rfl, rfl⟩ := hp9
      refine gr_h (up_blk hZ (by omega)) ?_
      have hI51 := cu_tn hI5 w
      refine gr_aload_n dX0_find_35 rfl ?_
      refine gr_getf dX0_find_36 cls_X0 0 (by decide) fl_X0_12 (co_an hZ hI51) rfl ?_
      refine gr_aload_n dX0_find_39 rfl ?_
      refine gr_getf dX0_find_40 cls_X0 1 (by decide) fl_X0_18 (co_an hZ hI51) rfl ?_
      obtain ⟨r9, p9, i9, w9, s9, hz9, hcd9⟩ := co_cd (h := h) hZ hI51
      refine gr_h hcd9 ?_
      refine gr_callV dX0_find_43 (c_find l E (d + 1) _ _ (inj_sub hZ (by omega)) (Z 42) cn w cf r9 p9 i9 w9 s9 (co_rd hZ (by omega) cs_1) (fun k hk => Zne hZ (by omega) (by omega) (by omega)) hz9.1 hz9.2.1 hz9.2.2.1 hz9.2.2.2.1 hz9.2.2.2.2) ysX5_find ⟨ml_X0_68, im_X5_find, sl_X5_find⟩ (ro_0 (inj_sub hZ (by omega))) (show vwCl[5]? = some (RX5, TX5, _) from rfl) rfl rfl (Nat.le_of_ble_eq_true rfl) ⟨(Nat.le_refl _), (Nat.le_refl _)⟩ ⟨(Nat.le_refl _), (Nat.le_refl _)⟩ (fun r0 h1 hp9 => ?_)
      obtain ⟨r8, p8, i8, w8, s8, q1, q2, q3, q4, q5, rfl, rfl⟩ := hp9
      refine gr_h (ov_blk hZ (by omega)) ?_
      have hI52 := cu_cd hI51 (rtN w cf).1 (rtN w cf).2.1 ⟨q1, q2, q3, q4, q5⟩
      have hdg : pdeg w 7 = pdeg (tnP F) 7 := pdeg_congr hw
      obtain ⟨g1, g2, g3⟩ := find_spec (q := w) (f := cf) (by rw [hdg]; exact (tnP_deg hdm).1)
      have g4 := find_le (q := w) (f := cf) (by rw [hdg]; exact (tnP_deg hdm).1)
      have g5 := (tnP_deg hdm).2
      have hev : ∀ y, ev w 7 y = ev (tnP F) 7 y := fun y => zs_congr (fun i hi => by rw [hw i hi])
      refine gr_aload_n dX0_find_46 rfl ?_
      refine gr_aload_n dX0_find_47 rfl ?_
      refine gr_aload_n dX0_find_48 rfl ?_
      refine gr_callV dX0_find_49 (c_findBases l E d h Z hZ o F S tr zk kn false bc (cnt pv2 13) v3 pa ba bs bv sn kv y zn zf (rtN w cf).1 (rtN w cf).2.1 _ hI52 (by omega) g2 (fun y => by rw [← hev y]; exact g3 y)) ysX0_findBases ⟨ml_X0_72, im_X0_findBases, sl_X0_findBases⟩ (co_an hZ hI52) (show vwCl[2]? = some (RX0, TX0, _) from rfl) rfl rfl (Nat.le_of_ble_eq_true rfl) ⟨(Nat.le_refl _), (Nat.le_refl _)⟩ ⟨(Nat.le_refl _), (Nat.le_refl _)⟩ (fun r0 h1 hp9 => ?_)
      obtain ⟨c6, bc6, ba6, bs6, bv6, cn6, cf6, hI6, hb6, hR6, rfl, rfl⟩ := hp9
      refine gr_aload_n dX0_find_52 rfl ?_
      refine gr_iconst (v := nI 1) dX0_find_53 rfl ?_
      refine gr_putf dX0_find_54 cls_X0 2 (by decide) fl_X0_76 rfl rfl rfl (Nat.le_of_ble_eq_true rfl) (co_an hZ hI6) ?_
      refine gr_h (up_blk hZ (by omega)) ?_
      have hI7 := cu_an hI6 true false bc6
      exact gr_return dX0_find_57 rfl (Nat.le_refl _) (Nat.le_refl _) ⟨_, false, bc6, cnt pv2 13, v3, pa, ba6, bs6, bv6, cn6, cf6, hI7, hb6, cnt_le _ _, ⟨C2, u2, pv2, hE2, rfl, hv3⟩, hres, hR6, rfl, rfl⟩
    · obtain ⟨i, hi, ha, hb⟩ := hbad
      rcases z i hi with w | w
      · rw [ha] at w; cases w
      · exact absurd w hb
  · refine gr_h (co_pab hZ hk3) ?_
    have hI4 := cu_pa hI3 (ptI C2 pv2 pa 13)
    have hres : ResM (fillK F S 1 5) true (ptI C2 pv2 pa 13) := ⟨C2, u2, pv2, hE2, ⟨fun _ => hgood, fun _ => rfl⟩, fun _ j hj => ptI_px hj⟩
    refine gr_putf dX0_find_27 cls_X0 4 (by decide) fl_X0_60 rfl rfl rfl (Nat.le_of_ble_eq_true rfl) (co_an hZ hI4) ?_
    refine gr_h (up_blk hZ (by omega)) ?_
    have hI5 := cu_an hI4 kn true bc
    refine gr_aload_n dX0_find_30 rfl ?_
    refine gr_aload_n dX0_find_31 rfl ?_
    obtain ⟨tn, htn⟩ := hI5.2.2.2.2.2.2.1
    refine gr_callV dX0_find_32 (c_collectTop l E (d + 4) _ Z kn true bc (Z 34) (co_an hZ hI5) (Zne hZ (by omega) (by omega) (by omega)) _ o F S (co_eq hZ hI5) (fun k hk => Zne hZ (by omega) (by omega) (by omega)) tn (co_rd hZ (by omega) htn)) ysX0_collectTopNumbers ⟨ml_X0_64, im_X0_collectTopNumbers, sl_X0_collectTopNumbers⟩ (co_an hZ hI5) (show vwCl[2]? = some (RX0, TX0, _) from rfl) rfl rfl (Nat.le_of_ble_eq_true rfl) ⟨(Nat.le_refl _), (Nat.le_refl _)⟩ ⟨(Nat.le_refl _), (Nat.le_refl _)⟩ (fun r0 h1 hp9 => ?_)
    obtain ⟨w, hw, rfl, rfl⟩ := hp9
    refine gr_h (up_blk hZ (by omega)) ?_
    have hI51 := cu_tn hI5 w
    refine gr_aload_n dX0_find_35 rfl ?_
    refine gr_getf dX0_find_36 cls_X0 0 (by decide) fl_X0_12 (co_an hZ hI51) rfl ?_
    refine gr_aload_n dX0_find_39 rfl ?_
    refine gr_getf dX0_find_40 cls_X0 1 (by decide) fl_X0_18 (co_an hZ hI51) rfl ?_
    obtain ⟨r9, p9, i9, w9, s9, hz9, hcd9⟩ := co_cd (h := h) hZ hI51
    refine gr_h hcd9 ?_
    refine gr_callV dX0_find_43 (c_find l E (d + 1) _ _ (inj_sub hZ (by omega)) (Z 42) cn w cf r9 p9 i9 w9 s9 (co_rd hZ (by omega) cs_1) (fun k hk => Zne hZ (by omega) (by omega) (by omega)) hz9.1 hz9.2.1 hz9.2.2.1 hz9.2.2.2.1 hz9.2.2.2.2) ysX5_find ⟨ml_X0_68, im_X5_find, sl_X5_find⟩ (ro_0 (inj_sub hZ (by omega))) (show vwCl[5]? = some (RX5, TX5, _) from rfl) rfl rfl (Nat.le_of_ble_eq_true rfl) ⟨(Nat.le_refl _), (Nat.le_refl _)⟩ ⟨(Nat.le_refl _), (Nat.le_refl _)⟩ (fun r0 h1 hp9 => ?_)
    obtain ⟨r8, p8, i8, w8, s8, q1, q2, q3, q4, q5, rfl, rfl⟩ := hp9
    refine gr_h (ov_blk hZ (by omega)) ?_
    have hI52 := cu_cd hI51 (rtN w cf).1 (rtN w cf).2.1 ⟨q1, q2, q3, q4, q5⟩
    have hdg : pdeg w 7 = pdeg (tnP F) 7 := pdeg_congr hw
    obtain ⟨g1, g2, g3⟩ := find_spec (q := w) (f := cf) (by rw [hdg]; exact (tnP_deg hdm).1)
    have g4 := find_le (q := w) (f := cf) (by rw [hdg]; exact (tnP_deg hdm).1)
    have g5 := (tnP_deg hdm).2
    have hev : ∀ y, ev w 7 y = ev (tnP F) 7 y := fun y => zs_congr (fun i hi => by rw [hw i hi])
    refine gr_aload_n dX0_find_46 rfl ?_
    refine gr_aload_n dX0_find_47 rfl ?_
    refine gr_aload_n dX0_find_48 rfl ?_
    refine gr_callV dX0_find_49 (c_findBases l E d h Z hZ o F S tr zk kn true bc (cnt pv2 13) v3 (ptI C2 pv2 pa 13) ba bs bv sn kv y zn zf (rtN w cf).1 (rtN w cf).2.1 _ hI52 (by omega) g2 (fun y => by rw [← hev y]; exact g3 y)) ysX0_findBases ⟨ml_X0_72, im_X0_findBases, sl_X0_findBases⟩ (co_an hZ hI52) (show vwCl[2]? = some (RX0, TX0, _) from rfl) rfl rfl (Nat.le_of_ble_eq_true rfl) ⟨(Nat.le_refl _), (Nat.le_refl _)⟩ ⟨(Nat.le_refl _), (Nat.le_refl _)⟩ (fun r0 h1 hp9 => ?_)
    obtain ⟨c6, bc6, ba6, bs6, bv6, cn6, cf6, hI6, hb6, hR6, rfl, rfl⟩ := hp9
    refine gr_aload_n dX0_find_52 rfl ?_
    refine gr_iconst (v := nI 1) dX0_find_53 rfl ?_
    refine gr_putf dX0_find_54 cls_X0 2 (by decide) fl_X0_76 rfl rfl rfl (Nat.le_of_ble_eq_true rfl) (co_an hZ hI6) ?_
    refine gr_h (up_blk hZ (by omega)) ?_
    have hI7 := cu_an hI6 true true bc6
    exact gr_return dX0_find_57 rfl (Nat.le_refl _) (Nat.le_refl _) ⟨_, true, bc6, cnt pv2 13, v3, (ptI C2 pv2 pa 13), ba6, bs6, bv6, cn6, cf6, hI7, hb6, cnt_le _ _, ⟨C2, u2, pv2, hE2, rfl, hv3⟩, hres, hR6, rfl, rfl⟩
