/-! The component: what its calls have in common; start, put, clear -/
section CV
variable {E : ga_E} {h : ga_H} {Z : Nat → Nat} {c : Nat → va_E}
theorem co_vb (hZ : ga_inj Z 65) (a b : Nat) (v : Nat → zp) : vH E (ga_ov h Z c 65) (Z 56) (Z 57) a b v = ga_ov h Z (cset (cset c 57 1 (fun _ => ga_f E 301 v)) 56 1 (fun _ => ga_o 7 [.ref (Z 57), .int (nI a), .int (nI b)])) 65 := by
  unfold vH
  rw [up_blk hZ (by omega), up_blk hZ (by omega)]
theorem co_eqw (hZ : ga_inj Z 65) {i : Nat} (hi : i < 5) {x : va_E} : ga_up (ga_ov h Z c 65) (Z (2 + (2 + i))) x = ga_ov h Z (cset c (4 + i) 1 (fun _ => x)) 65 := by
  rw [show 2 + (2 + i) = 4 + i by omega]
  exact up_blk hZ (by omega)
end CV

theorem co_vs {E : ga_E} {h : ga_H} {Z : Nat → Nat} {c : Nat → va_E} {o : Nat} {F : Nat → Nat → zp} {S : Nat → zp} {tr : Nat → zp} {zk : Bool} {kn : Bool} {mt : Bool} {bc : Nat} {n0 : Nat} {rv : Nat → zp} {pa : Nat → zp} {ba : Nat → zp} {bs : Nat → Nat} {bv : Nat → Nat → zp} {sn : Nat} {kv : Nat} {y : Nat → zp} {zn : Nat} {zf : Nat → zp} {cn : Nat} {cf : Nat → zp} (hZ : ga_inj Z 65) (h0 : coI E Z c o F S tr zk kn mt bc n0 rv pa ba bs bv sn kv y zn zf cn cf) : ga_ov h Z c 65 = vH E (ga_ov h Z c 65) (Z 56) (Z 57) sn kv y := (vh_self (co_v0 hZ h0) (co_v1 hZ h0)).symm

set_option maxHeartbeats 4000000 in
set_option maxRecDepth 100000 in
theorem c_forget (l : Launch) (E : ga_E) (d : Nat) (h : ga_H) (Z : Nat → Nat) (hZ : ga_inj Z 65) (o : Nat) (F : Nat → Nat → zp) (S : Nat → zp) (tr : Nat → zp) (zk : Bool) (kn : Bool) (mt : Bool) (bc : Nat) (n0 : Nat) (rv : Nat → zp) (pa : Nat → zp) (ba : Nat → zp) (bs : Nat → Nat) (bv : Nat → Nat → zp) (sn : Nat) (kv : Nat) (y : Nat → zp) (zn : Nat) (zf : Nat → zp) (cn : Nat) (cf : Nat → zp) (c : Nat → va_E) (hI : coI E Z c o F S tr zk kn mt bc n0 rv pa ba bs bv sn kv y zn zf cn cf) : ga_Ok l E (d + 1) mX8_forgetConclusions [.ref (Z 0)] (ga_ov h Z c 65) 0 0 (fun r0 h' => ∃ c', coI E Z c' o F S tr false false mt bc n0 rv pa ba bs bv sn sn y zn zf cn cf ∧ h' = ga_ov h Z c' 65 ∧ r0 = none) := by
  refine ga_Ok.of 0 _ (by decide) rfl (Nat.le_of_ble_eq_true rfl) rfl ?_
  refine gr_aload_n dX8_forgetConclusions_0 rfl ?_
  refine gr_getf dX8_forgetConclusions_1 cls_X8 2 (by decide) fl_X8_37 (co_ra hZ hI) rfl ?_
  refine gr_iconst (v := nI 0) dX8_forgetConclusions_4 rfl ?_
  refine gr_putf dX8_forgetConclusions_5 cls_X0 2 (by decide) fl_X8_107 rfl rfl rfl (Nat.le_of_ble_eq_true rfl) (co_an hZ hI) ?_
  refine gr_h (up_blk hZ (by omega)) ?_
  have hI1 := cu_an hI false mt bc
  refine gr_aload_n dX8_forgetConclusions_8 rfl ?_
  refine gr_getf dX8_forgetConclusions_9 cls_X8 3 (by decide) fl_X8_44 (co_ra hZ hI1) rfl ?_
  refine gr_h (co_vs hZ hI1) ?_
  refine gr_callV dX8_forgetConclusions_12 (c_vForget l E d _ (Z 56) (Z 57) sn kv y (Zne hZ (by omega) (by omega) (by omega))) ysX7_forgetConclusions ⟨ml_X8_195, im_X7_forgetConclusions, sl_X7_forgetConclusions⟩ vh_0 (show vwCl[7]? = some (RX7, TX7, _) from rfl) rfl rfl (Nat.le_of_ble_eq_true rfl) ⟨(Nat.le_refl _), (Nat.le_refl _)⟩ ⟨(Nat.le_refl _), (Nat.le_refl _)⟩ (fun r0 h1 hp9 => ?_)
  obtain ⟨rfl, rfl⟩ := hp9
  refine gr_h (co_vb hZ sn sn y) ?_
  have hI2 := cu_v0 (cu_v1 hI1 y) sn sn
  refine gr_aload_n dX8_forgetConclusions_15 rfl ?_
  refine gr_iconst (v := nI 0) dX8_forgetConclusions_16 rfl ?_
  refine gr_putf dX8_forgetConclusions_17 cls_X8 5 (by decide) fl_X8_164 rfl rfl rfl (Nat.le_of_ble_eq_true rfl) (co_ra hZ hI2) ?_
  refine gr_h (up_blk hZ (by omega)) ?_
  have hI3 := cu_z0 hI2 false
  exact gr_return dX8_forgetConclusions_20 rfl (Nat.le_refl _) (Nat.le_refl _) ⟨_, hI3, rfl, rfl⟩

set_option maxHeartbeats 4000000 in
set_option maxRecDepth 100000 in
theorem c_change (l : Launch) (E : ga_E) (d : Nat) (h : ga_H) (Z : Nat → Nat) (hZ : ga_inj Z 65) (o : Nat) (F : Nat → Nat → zp) (S : Nat → zp) (tr : Nat → zp) (zk : Bool) (kn : Bool) (mt : Bool) (bc : Nat) (n0 : Nat) (rv : Nat → zp) (pa : Nat → zp) (ba : Nat → zp) (bs : Nat → Nat) (bv : Nat → Nat → zp) (sn : Nat) (kv : Nat) (y : Nat → zp) (zn : Nat) (zf : Nat → zp) (cn : Nat) (cf : Nat → zp) (F' : Nat → Nat → zp) (S' : Nat → zp) (c : Nat → va_E) (idx N : Nat) (hix : idx < 65) (hN : N < 100) (v : Nat → zp) (hb : c idx = ga_f E N v) (p : Nat) (hp : p < N) (x : zp) (hI : coI E Z (cset c idx 1 (fun _ => ga_f E N (va_up v p x))) o F' S' tr zk kn mt bc n0 rv pa ba bs bv sn kv y zn zf cn cf) : ga_Ok l E (d + 2) mX8_change [.ref (Z 0), .ref (Z idx), .int (nI p), .int (nI x.val)] (ga_ov h Z c 65) 0 0 (fun r0 h' => v p = x ∧ h' = ga_ov h Z c 65 ∧ r0 = some (.int (nI 0)) ∨ v p ≠ x ∧ ∃ c', coI E Z c' o F' S' tr false false mt bc n0 rv pa ba bs bv sn sn y zn zf cn cf ∧ h' = ga_ov h Z c' 65 ∧ r0 = some (.int (nI 1))) := by
  refine ga_Ok.of 0 _ (by decide) rfl (Nat.le_of_ble_eq_true rfl) rfl ?_
  refine gr_iload_n dX8_change_0 rfl ?_
  refine gr_ifltN dX8_change_1 17 (by decide) (by omega) ?_
  refine gr_iload_n dX8_change_4 rfl ?_
  refine gr_aload_n dX8_change_5 rfl ?_
  refine gr_alen_i dX8_change_6 (co_rd hZ hix hb) ?_
  refine gr_icmpgeN 17 dX8_change_7 (by decide) (by omega) (by omega) (fun z => absurd z (by omega)) (fun _ => ?_)
  refine gr_aload_n dX8_change_10 rfl ?_
  refine gr_iload_n dX8_change_11 rfl ?_
  refine gr_ialoadF dX8_change_12 (co_rd hZ hix hb) (by omega) (by omega) ?_
  refine gr_iload_n dX8_change_13 rfl ?_
  refine gr_icmpneN 19 dX8_change_14 (by decide) (by have := zl (v p); omega) (by have := zl x; omega) (fun c_14 => ?_) (fun c_14 => ?_)
  · refine gr_aload_n dX8_change_19 rfl ?_
    refine gr_iload_n dX8_change_20 rfl ?_
    refine gr_iload_n dX8_change_21 rfl ?_
    refine gr_iastoreF dX8_change_22 (co_rd hZ hix hb) (by omega) (by omega) ?_
    refine gr_h (up_blk hZ hix) ?_
    refine gr_aload_n dX8_change_23 rfl ?_
    refine gr_callV dX8_change_24 (c_forget l E d h Z hZ o F' S' tr zk kn mt bc n0 rv pa ba bs bv sn kv y zn zf cn cf _ hI) ysX8_forgetConclusions ⟨ml_X8_192, im_X8_forgetConclusions, sl_X8_forgetConclusions⟩ (co_ra hZ hI) (show vwCl[8]? = some (RX8, TX8, _) from rfl) rfl rfl (Nat.le_of_ble_eq_true rfl) ⟨(Nat.le_refl _), (Nat.le_refl _)⟩ ⟨(Nat.le_refl _), (Nat.le_refl _)⟩ (fun r0 h1 hp9 => ?_)
    obtain ⟨c2, hI2, rfl, rfl⟩ := hp9
    refine gr_iconst (v := nI 1) dX8_change_27 rfl ?_
    exact gr_zreturn dX8_change_28 rfl rfl (Nat.le_refl _) (Nat.le_refl _) (Or.inr ⟨fun z => c_14 (congrArg Fin.val z), c2, hI2, rfl, rfl⟩)
  · refine gr_iconst (v := nI 0) dX8_change_17 rfl ?_
    exact gr_zreturn dX8_change_18 rfl rfl (Nat.le_refl _) (Nat.le_refl _) (Or.inl ⟨Fin.ext c_14, rfl, rfl⟩)

set_option maxHeartbeats 4000000 in
set_option maxRecDepth 100000 in
theorem c_reqAns (l : Launch) (hl0 : l.stackTraces = false) (E : ga_E) (d : Nat) (h : ga_H) (Z : Nat → Nat) (hZ : ga_inj Z 65) (o : Nat) (F : Nat → Nat → zp) (S : Nat → zp) (tr : Nat → zp) (zk : Bool) (kn : Bool) (mt : Bool) (bc : Nat) (n0 : Nat) (rv : Nat → zp) (pa : Nat → zp) (ba : Nat → zp) (bs : Nat → Nat) (bv : Nat → Nat → zp) (sn : Nat) (kv : Nat) (y : Nat → zp) (zn : Nat) (zf : Nat → zp) (cn : Nat) (cf : Nat → zp) (c : Nat → va_E) (hI : coI E Z c o F S tr zk kn mt bc n0 rv pa ba bs bv sn kv y zn zf cn cf) : ga_OkX l E (d + 7) mX8_requireAnswers [.ref (Z 0)] (ga_ov h Z c 65) 1 6 (fun r0 h' => kn = true ∧ h' = ga_ov h Z c 65 ∧ r0 = none) (fun Y h' => Y = nmS ∧ kn = false ∧ h' = ga_ov h Z c 65) := by
  refine ga_OkX.of 0 _ (by decide) rfl (Nat.le_of_ble_eq_true rfl) rfl ?_
  cases kn
  · refine gr_aload_n dX8_requireAnswers_0 rfl ?_
    refine gr_getf dX8_requireAnswers_1 cls_X8 2 (by decide) fl_X8_37 (co_ra hZ hI) rfl ?_
    refine gr_getf dX8_requireAnswers_4 cls_X0 2 (by decide) fl_X8_107 (co_an hZ hI) rfl ?_
    refine gr_ifne 20 dX8_requireAnswers_7 (by decide) (fun z => absurd rfl z) (fun _ => ?_)
    exact gr_throw hl0 rfl rfl (thr_S) dX8_requireAnswers_10 dX8_requireAnswers_13 dX8_requireAnswers_14 dX8_requireAnswers_16 dX8_requireAnswers_19 ⟨by show 7 ≤ d + 7; omega, by show 448 ≤ 64 * (d + 7); omega⟩ (Nat.le_of_ble_eq_true rfl) ⟨(Nat.le_of_ble_eq_true rfl), (Nat.le_of_ble_eq_true rfl)⟩ ⟨(Nat.le_of_ble_eq_true rfl), (Nat.le_of_ble_eq_true rfl)⟩ ⟨rfl, rfl, rfl⟩
  · refine gr_aload_n dX8_requireAnswers_0 rfl ?_
    refine gr_getf dX8_requireAnswers_1 cls_X8 2 (by decide) fl_X8_37 (co_ra hZ hI) rfl ?_
    refine gr_getf dX8_requireAnswers_4 cls_X0 2 (by decide) fl_X8_107 (co_an hZ hI) rfl ?_
    refine gr_ifne 20 dX8_requireAnswers_7 (by decide) (fun _ => ?_) (fun z => absurd z (by decide))
    exact gr_X (gr_return dX8_requireAnswers_20 rfl (Nat.le_of_ble_eq_true rfl) (Nat.le_of_ble_eq_true rfl) ⟨rfl, rfl, rfl⟩)

set_option maxHeartbeats 4000000 in
set_option maxRecDepth 100000 in
theorem c_reqPow (l : Launch) (hl0 : l.stackTraces = false) (E : ga_E) (d : Nat) (h : ga_H) (p : Int32) : ga_OkX l E (d + 7) mX8_requireAnswerPower [.int p] h 1 6 (fun r0 h' => ltR p 13 = true ∧ h' = h ∧ r0 = none) (fun Y h' => Y = nmI ∧ ltR p 13 = false ∧ h' = h) := by
  refine ga_OkX.of 0 _ (by decide) rfl (Nat.le_of_ble_eq_true rfl) rfl ?_
  refine gr_iload_n dX8_requireAnswerPower_0 rfl ?_
  refine gr_iflt 10 dX8_requireAnswerPower_1 (by decide) (fun c_1 => ?_) (fun c_1 => ?_)
  · exact gr_throw hl0 rfl rfl (thr_I (is := 201) (text := "powers are 0 .. 12") (by decide)) dX8_requireAnswerPower_10 dX8_requireAnswerPower_13 dX8_requireAnswerPower_14 dX8_requireAnswerPower_16 dX8_requireAnswerPower_19 ⟨by show 7 ≤ d + 7; omega, by show 448 ≤ 64 * (d + 7); omega⟩ (Nat.le_of_ble_eq_true rfl) ⟨(Nat.le_of_ble_eq_true rfl), (Nat.le_of_ble_eq_true rfl)⟩ ⟨(Nat.le_of_ble_eq_true rfl), (Nat.le_of_ble_eq_true rfl)⟩ ⟨rfl, ltR_neg c_1 13, rfl⟩
  · obtain ⟨j, hj, rfl⟩ := nI_of c_1
    refine gr_iload_n dX8_requireAnswerPower_4 rfl ?_
    refine gr_bipush (v := nI 13) dX8_requireAnswerPower_5 (by decide) ?_
    refine gr_icmpltN 20 dX8_requireAnswerPower_7 (by decide) hj (by omega) (fun c_7 => ?_) (fun c_7 => ?_)
    · exact gr_X (gr_return dX8_requireAnswerPower_20 rfl (Nat.le_of_ble_eq_true rfl) (Nat.le_of_ble_eq_true rfl) ⟨ltR_lt hj c_7, rfl, rfl⟩)
    · exact gr_throw hl0 rfl rfl (thr_I (is := 201) (text := "powers are 0 .. 12") (by decide)) dX8_requireAnswerPower_10 dX8_requireAnswerPower_13 dX8_requireAnswerPower_14 dX8_requireAnswerPower_16 dX8_requireAnswerPower_19 ⟨by show 7 ≤ d + 7; omega, by show 448 ≤ 64 * (d + 7); omega⟩ (Nat.le_of_ble_eq_true rfl) ⟨(Nat.le_of_ble_eq_true rfl), (Nat.le_of_ble_eq_true rfl)⟩ ⟨(Nat.le_of_ble_eq_true rfl), (Nat.le_of_ble_eq_true rfl)⟩ ⟨rfl, ltR_ge hj c_7, rfl⟩

set_option maxHeartbeats 4000000 in
set_option maxRecDepth 100000 in
theorem c_start (l : Launch) (E : ga_E) (d : Nat) (h : ga_H) (Z : Nat → Nat) (hZ : ga_inj Z 65) (o : Nat) (F : Nat → Nat → zp) (S : Nat → zp) (tr : Nat → zp) (zk : Bool) (kn : Bool) (mt : Bool) (bc : Nat) (n0 : Nat) (rv : Nat → zp) (pa : Nat → zp) (ba : Nat → zp) (bs : Nat → Nat) (bv : Nat → Nat → zp) (sn : Nat) (kv : Nat) (y : Nat → zp) (zn : Nat) (zf : Nat → zp) (cn : Nat) (cf : Nat → zp) (c : Nat → va_E) (hI : coI E Z c o F S tr zk kn mt bc n0 rv pa ba bs bv sn kv y zn zf cn cf) (hsn : sn ≤ 12) (x : Int64) : ga_Ok l E (d + 2) mX8_start [.ref (Z 0), .long x] (ga_ov h Z c 65) 0 0 (fun r0 h' => sn = 12 ∧ h' = ga_ov h Z c 65 ∧ r0 = some (.int (nI 0)) ∨ sn < 12 ∧ ∃ c', coI E Z c' o F S tr zk kn mt bc n0 rv pa ba bs bv (sn + 1) (sn + 1) (va_up y sn (zL x)) zn zf cn cf ∧ h' = ga_ov h Z c' 65 ∧ r0 = some (.int (nI 1))) := by
  refine ga_Ok.of 0 _ (by decide) rfl (Nat.le_of_ble_eq_true rfl) rfl ?_
  refine gr_aload_n dX8_start_0 rfl ?_
  refine gr_getf dX8_start_1 cls_X8 3 (by decide) fl_X8_44 (co_ra hZ hI) rfl ?_
  refine gr_lload_n dX8_start_4 rfl ?_
  refine gr_callS dX8_start_5 (c_of l E d _ x) ysX3_of ⟨ml_X8_75, sm_X3_of⟩ rfl rfl (Nat.le_of_ble_eq_true rfl) ⟨(Nat.le_refl _), (Nat.le_refl _)⟩ ⟨(Nat.le_refl _), (Nat.le_refl _)⟩ (fun r0 h1 hp9 => ?_)
  obtain ⟨e1, rfl⟩ := hp9
  subst h1
  refine gr_h (co_vs hZ hI) ?_
  refine gr_callV dX8_start_8 (c_addStart l E (d + 1) _ (Z 56) (Z 57) sn kv y (Zne hZ (by omega) (by omega) (by omega)) (zL x) hsn) ysX7_addStart ⟨ml_X8_155, im_X7_addStart, sl_X7_addStart⟩ vh_0 (show vwCl[7]? = some (RX7, TX7, _) from rfl) rfl rfl (Nat.le_of_ble_eq_true rfl) ⟨(Nat.le_refl _), (Nat.le_refl _)⟩ ⟨(Nat.le_refl _), (Nat.le_refl _)⟩ (fun r0 h1 hp9 => ?_)
  rcases hp9 with ⟨h9, rfl, rfl⟩ | ⟨h9, rfl, rfl⟩
  · refine gr_h (co_vs hZ hI).symm ?_
    exact gr_zreturn dX8_start_11 rfl rfl (Nat.le_refl _) (Nat.le_refl _) (Or.inl ⟨by omega, rfl, rfl⟩)
  · refine gr_h (co_vb hZ (sn + 1) (sn + 1) (va_up y sn (zL x))) ?_
    exact gr_zreturn dX8_start_11 rfl rfl (Nat.le_refl _) (Nat.le_refl _) (Or.inr ⟨h9, _, cu_v0 (cu_v1 hI _) (sn + 1) (sn + 1), rfl, rfl⟩)

set_option maxHeartbeats 4000000 in
set_option maxRecDepth 100000 in
theorem c_put (l : Launch) (hl0 : l.stackTraces = false) (E : ga_E) (d : Nat) (h : ga_H) (Z : Nat → Nat) (hZ : ga_inj Z 65) (o : Nat) (F : Nat → Nat → zp) (S : Nat → zp) (tr : Nat → zp) (zk : Bool) (kn : Bool) (mt : Bool) (bc : Nat) (n0 : Nat) (rv : Nat → zp) (pa : Nat → zp) (ba : Nat → zp) (bs : Nat → Nat) (bv : Nat → Nat → zp) (sn : Nat) (kv : Nat) (y : Nat → zp) (zn : Nat) (zf : Nat → zp) (cn : Nat) (cf : Nat → zp) (c : Nat → va_E) (hI : coI E Z c o F S tr zk kn mt bc n0 rv pa ba bs bv sn kv y zn zf cn cf) (p v : Int32) : ga_OkX l E (d + 8) mX8_put [.ref (Z 0), .int p, .int v] (ga_ov h Z c 65) 1 6 (fun r0 h' => cdP 13 p = 0 ∧ ∃ c', coI E Z c' o F S (va_up tr (ix p) (zL v.toInt64)) zk kn mt bc n0 rv pa ba bs bv sn kv y zn zf cn cf ∧ h' = ga_ov h Z c' 65 ∧ r0 = some (.int (bI (zne (tr (ix p)) (zL v.toInt64))))) (fun Y h' => Y = nmI ∧ cdP 13 p = 1 ∧ h' = ga_ov h Z c 65) := by
  refine ga_OkX.of 2 _ (by decide) rfl (Nat.le_of_ble_eq_true rfl) rfl ?_
  refine gr_iload_n dX8_put_0 rfl ?_
  refine gr_callSX dX8_put_1 (c_reqPow l hl0 E d _ p) ysX8_requireAnswerPower ⟨ml_X8_127, sm_X8_requireAnswerPower⟩ rfl rfl (Nat.le_of_ble_eq_true rfl) ⟨(Nat.le_refl _), (Nat.le_refl _)⟩ ⟨(Nat.le_of_ble_eq_true rfl), (Nat.le_of_ble_eq_true rfl)⟩ (fun Y h' hp => gt_out rfl ⟨hp.1, by unfold cdP; rw [hp.2.1]; rfl, hp.2.2⟩ (Nat.le_of_ble_eq_true rfl) (Nat.le_of_ble_eq_true rfl)) (fun r0 h1 hp9 => ?_)
  obtain ⟨hlt, e1, rfl⟩ := hp9
  subst h1
  obtain ⟨j, hj13, hj, rfl⟩ := ltR_of hlt (by omega)
  refine gr_iload_n dX8_put_4 rfl ?_
  refine gr_i2l dX8_put_5 rfl ?_
  refine gr_callS dX8_put_6 (c_of l E (d + 6) _ v.toInt64) ysX3_of ⟨ml_X8_75, sm_X3_of⟩ rfl rfl (Nat.le_of_ble_eq_true rfl) ⟨(Nat.le_refl _), (Nat.le_refl _)⟩ ⟨(Nat.le_of_ble_eq_true rfl), (Nat.le_of_ble_eq_true rfl)⟩ (fun r0 h1 hp9 => ?_)
  obtain ⟨e1, rfl⟩ := hp9
  subst h1
  refine gr_istore_n dX8_put_9 (by decide) rfl ?_
  refine gr_aload_n dX8_put_10 rfl ?_
  refine gr_getf dX8_put_11 cls_X8 6 (by decide) fl_X8_55 (co_ra hZ hI) rfl ?_
  refine gr_iload_n dX8_put_14 rfl ?_
  refine gr_ialoadF dX8_put_15 (co_tr hZ hI) (by omega) (by decide) ?_
  refine gr_iload_n dX8_put_16 rfl ?_
  refine gr_icmpeqN 24 dX8_put_17 (by decide) (by have := zl (tr j); omega) (by have := zl (zL v.toInt64); omega) (fun c_17 => ?_) (fun c_17 => ?_)
  · refine gr_iconst (v := nI 0) dX8_put_24 rfl ?_
    refine gr_istore dX8_put_25 (by decide) rfl ?_
    refine gr_aload_n dX8_put_27 rfl ?_
    refine gr_getf dX8_put_28 cls_X8 6 (by decide) fl_X8_55 (co_ra hZ hI) rfl ?_
    refine gr_iload_n dX8_put_31 rfl ?_
    refine gr_iload_n dX8_put_32 rfl ?_
    refine gr_iastoreF dX8_put_33 (co_tr hZ hI) (by omega) (by decide) ?_
    refine gr_h (up_blk hZ (by omega)) ?_
    refine gr_iload dX8_put_34 rfl ?_
    first
      | exact gr_X (gr_zreturn dX8_put_36 rfl rfl (Nat.le_of_ble_eq_true rfl) (Nat.le_of_ble_eq_true rfl) ⟨by unfold cdP; rw [hlt]; rfl, _, cu_tr hI _, by rw [ix_nI hj], by rw [ix_nI hj, zne_f c_17]; rfl⟩)
      | exact gr_X (gr_zreturn dX8_put_36 rfl rfl (Nat.le_of_ble_eq_true rfl) (Nat.le_of_ble_eq_true rfl) ⟨by unfold cdP; rw [hlt]; rfl, _, cu_tr hI _, by rw [ix_nI hj], by rw [ix_nI hj, zne_t c_17]; rfl⟩)
  · refine gr_iconst (v := nI 1) dX8_put_20 rfl ?_
    refine gr_goto 25 dX8_put_21 (by decide) ?_
    refine gr_istore dX8_put_25 (by decide) rfl ?_
    refine gr_aload_n dX8_put_27 rfl ?_
    refine gr_getf dX8_put_28 cls_X8 6 (by decide) fl_X8_55 (co_ra hZ hI) rfl ?_
    refine gr_iload_n dX8_put_31 rfl ?_
    refine gr_iload_n dX8_put_32 rfl ?_
    refine gr_iastoreF dX8_put_33 (co_tr hZ hI) (by omega) (by decide) ?_
    refine gr_h (up_blk hZ (by omega)) ?_
    refine gr_iload dX8_put_34 rfl ?_
    first
      | exact gr_X (gr_zreturn dX8_put_36 rfl rfl (Nat.le_of_ble_eq_true rfl) (Nat.le_of_ble_eq_true rfl) ⟨by unfold cdP; rw [hlt]; rfl, _, cu_tr hI _, by rw [ix_nI hj], by rw [ix_nI hj, zne_f c_17]; rfl⟩)
      | exact gr_X (gr_zreturn dX8_put_36 rfl rfl (Nat.le_of_ble_eq_true rfl) (Nat.le_of_ble_eq_true rfl) ⟨by unfold cdP; rw [hlt]; rfl, _, cu_tr hI _, by rw [ix_nI hj], by rw [ix_nI hj, zne_t c_17]; rfl⟩)
