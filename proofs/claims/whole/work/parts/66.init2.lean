/-! The constructors that make objects of other classes -/
def anC (E : ga_E) (A : Nat → Nat) (sy : Nat) : Nat → va_E
  | 0 => ga_o 2 [.ref sy, .ref (A 1), .ref (A 8), .int (nI 0), .ref (A 9), .int (nI 0), .ref (A 11), .int (nI 0), .ref (A 12), .ref (A 13)]
  | 1 => roC E (fun j => A (1 + j)) 0 z0 z0 z0 z0 z0 z0 0
  | 2 => roC E (fun j => A (1 + j)) 0 z0 z0 z0 z0 z0 z0 1
  | 3 => roC E (fun j => A (1 + j)) 0 z0 z0 z0 z0 z0 z0 2
  | 4 => roC E (fun j => A (1 + j)) 0 z0 z0 z0 z0 z0 z0 3
  | 5 => roC E (fun j => A (1 + j)) 0 z0 z0 z0 z0 z0 z0 4
  | 6 => roC E (fun j => A (1 + j)) 0 z0 z0 z0 z0 z0 z0 5
  | 7 => roC E (fun j => A (1 + j)) 0 z0 z0 z0 z0 z0 z0 6
  | 8 => ga_f E 7 z0
  | 9 => ga_o 6 [.ref (A 10), .int (nI 0)]
  | 10 => ga_f E 169 z0
  | 11 => ga_f E 13 z0
  | 12 => ga_f E 4 z0
  | 13 => ga_rr E 4 (fun i => if i < 4 then some (A (14 + 2 * i)) else none)
  | 14 => ga_o 6 [.ref (A 15), .int (nI 0)]
  | 15 => ga_f E 169 z0
  | 16 => ga_o 6 [.ref (A 17), .int (nI 0)]
  | 17 => ga_f E 169 z0
  | 18 => ga_o 6 [.ref (A 19), .int (nI 0)]
  | 19 => ga_f E 169 z0
  | 20 => ga_o 6 [.ref (A 21), .int (nI 0)]
  | 21 => ga_f E 169 z0
  | _ => ga_f E 4 z0
set_option maxHeartbeats 4000000 in
set_option maxRecDepth 100000 in
theorem c_X0_init (l : Launch) (E : ga_E) (d : Nat) (h : ga_H) (q : Nat) (hq : h q = none) (sy : Nat) : ga_Ok l E (d + 2) mX0_init [.ref q, .ref sy] (ga_up h q (ga_o 2 [.null, .null, .null, .int 0, .null, .int 0, .null, .int 0, .null, .null])) 21 937 (fun r0 h' => r0 = none ∧ ∃ A, A 0 = q ∧ Blk h A (anC E A sy) 22 h') := by
  refine ga_Ok.of 1 _ (by decide) rfl (Nat.le_of_ble_eq_true rfl) rfl ?_
  have hB0 := Blk_1 hq (ga_o 2 [.null, .null, .null, .int 0, .null, .int 0, .null, .int 0, .null, .null])
  refine gr_aload_n dX0_init_0 rfl ?_
  refine gr_objInit dX0_init_1 ml_X0_3 ⟨by show 1 ≤ d + 2; omega, by show 64 ≤ 64 * (d + 2); omega⟩ (by decide) ?_
  refine gr_aload_n dX0_init_4 rfl ?_
  refine gr_newO dX0_init_5 cls_X5 ⟨cl_X0_9, wn_X5, wi_X5⟩ (fs := [.null, .null, .null, .null, .null, .null, .int 0]) (fun j hj => by rcases j with _ | _ | _ | _ | _ | _ | _ | j <;> first | rfl | omega) ⟨(Nat.le_of_ble_eq_true rfl), (Nat.le_of_ble_eq_true rfl)⟩ (fun q1 hq1 => ?_)
  refine gr_dup dX0_init_8 rfl ?_
  refine gr_callIN dX0_init_9 (c_X5_init l E d _ q1 hq1) ysX5_init rfl rfl ⟨List.mem_of_getElem? (show ga_Nst[1]? = some _ from rfl), im_X5_init⟩ rfl rfl (Nat.le_of_ble_eq_true rfl) ⟨(Nat.le_refl _), (Nat.le_refl _)⟩ ⟨(Nat.le_of_ble_eq_true rfl), (Nat.le_of_ble_eq_true rfl)⟩ (fun r2 H2 hp2 => ?_)
  obtain ⟨rfl, A2, hz2, hA2⟩ := hp2
  subst hz2
  have hB2 := hB0.app hA2
  refine bk_putF hB2 dX0_init_12 cls_X0 1 (by decide) fl_X0_12 ⟨rfl, rfl, rfl⟩ rfl rfl (Nat.le_of_ble_eq_true rfl) 0 (by decide) rfl rfl (fun H3 hB3 => ?_)
  refine gr_aload_n dX0_init_15 rfl ?_
  refine gr_bipush (v := nI 7) dX0_init_16 (by decide) ?_
  refine bk_newI hB3 dX0_init_18 (by decide) ⟨(Nat.le_of_ble_eq_true rfl), (Nat.le_of_ble_eq_true rfl)⟩ (fun q4 H4 hB4 => ?_)
  refine bk_putF hB4 dX0_init_20 cls_X0 2 (by decide) fl_X0_18 ⟨rfl, rfl, rfl⟩ rfl rfl (Nat.le_of_ble_eq_true rfl) 0 (by decide) rfl rfl (fun H5 hB5 => ?_)
  refine gr_aload_n dX0_init_23 rfl ?_
  refine gr_newO dX0_init_24 cls_X6 ⟨cl_X0_22, wn_X6, wi_X6⟩ (fs := [.null, .int 0]) (fun j hj => by rcases j with _ | _ | j <;> first | rfl | omega) ⟨(Nat.le_of_ble_eq_true rfl), (Nat.le_of_ble_eq_true rfl)⟩ (fun q6 hq6 => ?_)
  refine gr_dup dX0_init_27 rfl ?_
  refine gr_callIN dX0_init_28 (c_X6_init l E d _ q6 hq6) ysX6_init rfl rfl ⟨List.mem_of_getElem? (show ga_Nst[2]? = some _ from rfl), im_X6_init⟩ rfl rfl (Nat.le_of_ble_eq_true rfl) ⟨(Nat.le_refl _), (Nat.le_refl _)⟩ ⟨(Nat.le_of_ble_eq_true rfl), (Nat.le_of_ble_eq_true rfl)⟩ (fun r7 H7 hp7 => ?_)
  obtain ⟨rfl, A7, hz7, hA7⟩ := hp7
  subst hz7
  have hB7 := hB5.app hA7
  refine bk_putF hB7 dX0_init_31 cls_X0 4 (by decide) fl_X0_25 ⟨rfl, rfl, rfl⟩ rfl rfl (Nat.le_of_ble_eq_true rfl) 0 (by decide) rfl rfl (fun H8 hB8 => ?_)
  refine gr_aload_n dX0_init_34 rfl ?_
  refine gr_bipush (v := nI 13) dX0_init_35 (by decide) ?_
  refine bk_newI hB8 dX0_init_37 (by decide) ⟨(Nat.le_of_ble_eq_true rfl), (Nat.le_of_ble_eq_true rfl)⟩ (fun q9 H9 hB9 => ?_)
  refine bk_putF hB9 dX0_init_39 cls_X0 6 (by decide) fl_X0_29 ⟨rfl, rfl, rfl⟩ rfl rfl (Nat.le_of_ble_eq_true rfl) 0 (by decide) rfl rfl (fun H10 hB10 => ?_)
  refine gr_aload_n dX0_init_42 rfl ?_
  refine gr_iconst (v := nI 4) dX0_init_43 rfl ?_
  refine bk_newI hB10 dX0_init_44 (by decide) ⟨(Nat.le_of_ble_eq_true rfl), (Nat.le_of_ble_eq_true rfl)⟩ (fun q11 H11 hB11 => ?_)
  refine bk_putF hB11 dX0_init_46 cls_X0 8 (by decide) fl_X0_32 ⟨rfl, rfl, rfl⟩ rfl rfl (Nat.le_of_ble_eq_true rfl) 0 (by decide) rfl rfl (fun H12 hB12 => ?_)
  refine gr_aload_n dX0_init_49 rfl ?_
  refine gr_iconst (v := nI 4) dX0_init_50 rfl ?_
  refine bk_newR hB12 dX0_init_51 cl_X0_22 (by decide) ⟨(Nat.le_of_ble_eq_true rfl), (Nat.le_of_ble_eq_true rfl)⟩ (fun q13 H13 hB13 => ?_)
  refine bk_putF hB13 dX0_init_54 cls_X0 9 (by decide) fl_X0_35 ⟨rfl, rfl, rfl⟩ rfl rfl (Nat.le_of_ble_eq_true rfl) 0 (by decide) rfl rfl (fun H14 hB14 => ?_)
  refine gr_aload_n dX0_init_57 rfl ?_
  refine gr_aload_n dX0_init_58 rfl ?_
  refine bk_putF hB14 dX0_init_59 cls_X0 0 (by decide) fl_X0_39 ⟨rfl, rfl, rfl⟩ rfl rfl (Nat.le_of_ble_eq_true rfl) 0 (by decide) rfl rfl (fun H15 hB15 => ?_)
  refine gr_iconst (v := nI 0) dX0_init_62 rfl ?_
  refine gr_istore_n dX0_init_63 (by decide) rfl ?_
  refine gr_iload_n dX0_init_64 rfl ?_
  refine gr_iconst (v := nI 4) dX0_init_65 rfl ?_
  refine gr_icmpgeN 88 dX0_init_66 (by decide) (by omega) (by omega) (fun z => absurd z (by omega)) (fun _ => ?_)
  refine gr_aload_n dX0_init_69 rfl ?_
  refine bk_getf hB15 dX0_init_70 cls_X0 9 (by decide) fl_X0_35 0 (by decide) rfl rfl rfl ?_
  refine gr_iload_n dX0_init_73 rfl ?_
  refine gr_newO dX0_init_74 cls_X6 ⟨cl_X0_22, wn_X6, wi_X6⟩ (fs := [.null, .int 0]) (fun j hj => by rcases j with _ | _ | j <;> first | rfl | omega) ⟨(Nat.le_of_ble_eq_true rfl), (Nat.le_of_ble_eq_true rfl)⟩ (fun q16 hq16 => ?_)
  refine gr_dup dX0_init_77 rfl ?_
  refine gr_callIN dX0_init_78 (c_X6_init l E d _ q16 hq16) ysX6_init rfl rfl ⟨List.mem_of_getElem? (show ga_Nst[2]? = some _ from rfl), im_X6_init⟩ rfl rfl (Nat.le_of_ble_eq_true rfl) ⟨(Nat.le_refl _), (Nat.le_refl _)⟩ ⟨(Nat.le_of_ble_eq_true rfl), (Nat.le_of_ble_eq_true rfl)⟩ (fun r17 H17 hp17 => ?_)
  obtain ⟨rfl, A17, hz17, hA17⟩ := hp17
  subst hz17
  have hB17 := hB15.app hA17
  refine bk_aastR hB17 dX0_init_81 (by decide) (by decide) 13 (by decide) rfl rfl 14 (by decide) rfl rfl (fun H18 hB18 => ?_)
  refine gr_iinc (v := nI 1) dX0_init_82 rfl (nI_1 _) (by decide) rfl ?_
  refine gr_goto 64 dX0_init_85 (by decide) ?_
  refine gr_iload_n dX0_init_64 rfl ?_
  refine gr_iconst (v := nI 4) dX0_init_65 rfl ?_
  refine gr_icmpgeN 88 dX0_init_66 (by decide) (by omega) (by omega) (fun z => absurd z (by omega)) (fun _ => ?_)
  refine gr_aload_n dX0_init_69 rfl ?_
  refine bk_getf hB18 dX0_init_70 cls_X0 9 (by decide) fl_X0_35 0 (by decide) rfl rfl rfl ?_
  refine gr_iload_n dX0_init_73 rfl ?_
  refine gr_newO dX0_init_74 cls_X6 ⟨cl_X0_22, wn_X6, wi_X6⟩ (fs := [.null, .int 0]) (fun j hj => by rcases j with _ | _ | j <;> first | rfl | omega) ⟨(Nat.le_of_ble_eq_true rfl), (Nat.le_of_ble_eq_true rfl)⟩ (fun q19 hq19 => ?_)
  refine gr_dup dX0_init_77 rfl ?_
  refine gr_callIN dX0_init_78 (c_X6_init l E d _ q19 hq19) ysX6_init rfl rfl ⟨List.mem_of_getElem? (show ga_Nst[2]? = some _ from rfl), im_X6_init⟩ rfl rfl (Nat.le_of_ble_eq_true rfl) ⟨(Nat.le_refl _), (Nat.le_refl _)⟩ ⟨(Nat.le_of_ble_eq_true rfl), (Nat.le_of_ble_eq_true rfl)⟩ (fun r20 H20 hp20 => ?_)
  obtain ⟨rfl, A20, hz20, hA20⟩ := hp20
  subst hz20
  have hB20 := hB18.app hA20
  refine bk_aastR hB20 dX0_init_81 (by decide) (by decide) 13 (by decide) rfl rfl 16 (by decide) rfl rfl (fun H21 hB21 => ?_)
  refine gr_iinc (v := nI 2) dX0_init_82 rfl (nI_1 _) (by decide) rfl ?_
  refine gr_goto 64 dX0_init_85 (by decide) ?_
  refine gr_iload_n dX0_init_64 rfl ?_
  refine gr_iconst (v := nI 4) dX0_init_65 rfl ?_
  refine gr_icmpgeN 88 dX0_init_66 (by decide) (by omega) (by omega) (fun z => absurd z (by omega)) (fun _ => ?_)
  refine gr_aload_n dX0_init_69 rfl ?_
  refine bk_getf hB21 dX0_init_70 cls_X0 9 (by decide) fl_X0_35 0 (by decide) rfl rfl rfl ?_
  refine gr_iload_n dX0_init_73 rfl ?_
  refine gr_newO dX0_init_74 cls_X6 ⟨cl_X0_22, wn_X6, wi_X6⟩ (fs := [.null, .int 0]) (fun j hj => by rcases j with _ | _ | j <;> first | rfl | omega) ⟨(Nat.le_of_ble_eq_true rfl), (Nat.le_of_ble_eq_true rfl)⟩ (fun q22 hq22 => ?_)
  refine gr_dup dX0_init_77 rfl ?_
  refine gr_callIN dX0_init_78 (c_X6_init l E d _ q22 hq22) ysX6_init rfl rfl ⟨List.mem_of_getElem? (show ga_Nst[2]? = some _ from rfl), im_X6_init⟩ rfl rfl (Nat.le_of_ble_eq_true rfl) ⟨(Nat.le_refl _), (Nat.le_refl _)⟩ ⟨(Nat.le_of_ble_eq_true rfl), (Nat.le_of_ble_eq_true rfl)⟩ (fun r23 H23 hp23 => ?_)
  obtain ⟨rfl, A23, hz23, hA23⟩ := hp23
  subst hz23
  have hB23 := hB21.app hA23
  refine bk_aastR hB23 dX0_init_81 (by decide) (by decide) 13 (by decide) rfl rfl 18 (by decide) rfl rfl (fun H24 hB24 => ?_)
  refine gr_iinc (v := nI 3) dX0_init_82 rfl (nI_1 _) (by decide) rfl ?_
  refine gr_goto 64 dX0_init_85 (by decide) ?_
  refine gr_iload_n dX0_init_64 rfl ?_
  refine gr_iconst (v := nI 4) dX0_init_65 rfl ?_
  refine gr_icmpgeN 88 dX0_init_66 (by decide) (by omega) (by omega) (fun z => absurd z (by omega)) (fun _ => ?_)
  refine gr_aload_n dX0_init_69 rfl ?_
  refine bk_getf hB24 dX0_init_70 cls_X0 9 (by decide) fl_X0_35 0 (by decide) rfl rfl rfl ?_
  refine gr_iload_n dX0_init_73 rfl ?_
  refine gr_newO dX0_init_74 cls_X6 ⟨cl_X0_22, wn_X6, wi_X6⟩ (fs := [.null, .int 0]) (fun j hj => by rcases j with _ | _ | j <;> first | rfl | omega) ⟨(Nat.le_of_ble_eq_true rfl), (Nat.le_of_ble_eq_true rfl)⟩ (fun q25 hq25 => ?_)
  refine gr_dup dX0_init_77 rfl ?_
  refine gr_callIN dX0_init_78 (c_X6_init l E d _ q25 hq25) ysX6_init rfl rfl ⟨List.mem_of_getElem? (show ga_Nst[2]? = some _ from rfl), im_X6_init⟩ rfl rfl (Nat.le_of_ble_eq_true rfl) ⟨(Nat.le_refl _), (Nat.le_refl _)⟩ ⟨(Nat.le_of_ble_eq_true rfl), (Nat.le_of_ble_eq_true rfl)⟩ (fun r26 H26 hp26 => ?_)
  obtain ⟨rfl, A26, hz26, hA26⟩ := hp26
  subst hz26
  have hB26 := hB24.app hA26
  refine bk_aastR hB26 dX0_init_81 (by decide) (by decide) 13 (by decide) rfl rfl 20 (by decide) rfl rfl (fun H27 hB27 => ?_)
  refine gr_iinc (v := nI 4) dX0_init_82 rfl (nI_1 _) (by decide) rfl ?_
  refine gr_goto 64 dX0_init_85 (by decide) ?_
  refine gr_iload_n dX0_init_64 rfl ?_
  refine gr_iconst (v := nI 4) dX0_init_65 rfl ?_
  refine gr_icmpgeN 88 dX0_init_66 (by decide) (by omega) (by omega) (fun _ => ?_) (fun z => absurd z (by omega))
  refine gr_return dX0_init_88 rfl (Nat.le_of_ble_eq_true rfl) (Nat.le_of_ble_eq_true rfl) ⟨rfl, _, rfl, hB27.congr (fun _ _ => rfl) (fun k hk => ?_)⟩
  rcases k with _ | _ | _ | _ | _ | _ | _ | _ | _ | _ | _ | _ | _ | _ | _ | _ | _ | _ | _ | _ | _ | _ | k
  · rfl
  · rfl
  · rfl
  · rfl
  · rfl
  · rfl
  · rfl
  · rfl
  · rfl
  · rfl
  · rfl
  · rfl
  · rfl
  · refine congrArg (ga_rr E 4) (funext fun i => ?_)
    rcases i with _ | _ | _ | _ | i <;> rfl
  · rfl
  · rfl
  · rfl
  · rfl
  · rfl
  · rfl
  · rfl
  · rfl
  · omega

theorem ord_mm (x : Int32) : (if nI 1 < (if x < nI 4 then x else nI 4) then (if x < nI 4 then x else nI 4) else nI 1) = nI (ordN x) := by
  by_cases h1 : x < 1
  · rw [ordN_lo h1]
    have h4 : x < nI 4 := Int32.lt_trans h1 (by decide)
    rw [if_pos h4, if_neg (fun z => absurd (Int32.lt_trans h1 z) (Int32.lt_irrefl _))]
  · by_cases h2 : 4 < x
    · rw [ordN_hi h1 h2]
      rw [if_neg (fun z : x < nI 4 => absurd (Int32.lt_trans h2 z) (Int32.lt_irrefl _))]
      exact if_pos (by decide)
    · rw [ordN_in h1 h2]
      obtain ⟨j, hj, rfl⟩ := nI_of (x := x) (fun z => h1 (Int32.lt_trans z (by decide)))
      have a : ¬ j < 1 := fun z => h1 ((nI_ltI hj (by omega)).mpr z)
      have b : ¬ 4 < j := fun z => h2 ((nI_ltI (by omega) hj).mpr z)
      have hc : j = 1 ∨ j = 2 ∨ j = 3 ∨ j = 4 := by omega
      rcases hc with rfl | rfl | rfl | rfl <;> decide

set_option maxHeartbeats 4000000 in
set_option maxRecDepth 100000 in
theorem c_X8_init (l : Launch) (E : ga_E) (d : Nat) (h : ga_H) (q : Nat) (hq : h q = none) (x : Int32) : ga_Ok l E (d + 3) mX8_init [.ref q, .int x] (ga_up h q (ga_o 8 [.null, .null, .null, .null, .null, .int 0, .null])) 64 1712 (fun r0 h' => r0 = none ∧ ∃ (Z : Nat → Nat) (c : Nat → va_E), Z 0 = q ∧ Blk h Z c 65 h' ∧ coI E Z c (ordN x) (fun _ => z0) z0 z0 false false false 0 0 z0 z0 z0 (fun _ => 0) (fun _ => z0) 0 0 z0 0 z0 0 z0) := by
  refine ga_Ok.of 0 _ (by decide) rfl (Nat.le_of_ble_eq_true rfl) rfl ?_
  have hB0 := Blk_1 hq (ga_o 8 [.null, .null, .null, .null, .null, .int 0, .null])
  refine gr_aload_n dX8_init_0 rfl ?_
  refine gr_objInit dX8_init_1 ml_X8_1 ⟨by show 1 ≤ d + 3; omega, by show 64 ≤ 64 * (d + 3); omega⟩ (by decide) ?_
  refine gr_aload_n dX8_init_4 rfl ?_
  refine gr_newO dX8_init_5 cls_X1 ⟨cl_X8_7, wn_X1, wi_X1⟩ (fs := [.int 0, .null, .null]) (fun j hj => by rcases j with _ | _ | _ | j <;> first | rfl | omega) ⟨(Nat.le_of_ble_eq_true rfl), (Nat.le_of_ble_eq_true rfl)⟩ (fun q1 hq1 => ?_)
  refine gr_dup dX8_init_8 rfl ?_
  refine gr_iconst (v := nI 1) dX8_init_9 rfl ?_
  refine gr_iconst (v := nI 4) dX8_init_10 rfl ?_
  refine gr_iload_n dX8_init_11 rfl ?_
  refine gr_callS dX8_init_12 (c_min l E (d + 2) _ (nI 4) x) ysJ9_min_7cf53 ⟨ml_X8_11, sm_J9_min_7cf53⟩ rfl rfl (Nat.le_of_ble_eq_true rfl) ⟨(Nat.le_refl _), (Nat.le_refl _)⟩ ⟨(Nat.le_of_ble_eq_true rfl), (Nat.le_of_ble_eq_true rfl)⟩ (fun r0 h1 hp9 => ?_)
  obtain ⟨rfl, rfl⟩ := hp9
  refine gr_callS dX8_init_15 (c_max l E (d + 2) _ (nI 1) _) ysJ9_max_7cf53 ⟨ml_X8_17, sm_J9_max_7cf53⟩ rfl rfl (Nat.le_of_ble_eq_true rfl) ⟨(Nat.le_refl _), (Nat.le_refl _)⟩ ⟨(Nat.le_of_ble_eq_true rfl), (Nat.le_of_ble_eq_true rfl)⟩ (fun r8 h8 hp8 => ?_)
  obtain ⟨rfl, rfl⟩ := hp8
  refine gr_top (congrArg Value.int (ord_mm x)) ?_
  refine gr_callI dX8_init_18 (c_X1_init l E (d + 1) _ q1 hq1 (ordN x)) ysX1_init rfl rfl ⟨ml_X8_20, im_X1_init⟩ rfl rfl (Nat.le_of_ble_eq_true rfl) ⟨(Nat.le_refl _), (Nat.le_refl _)⟩ ⟨(Nat.le_of_ble_eq_true rfl), (Nat.le_of_ble_eq_true rfl)⟩ (fun r2 H2 hp2 => ?_)
  obtain ⟨rfl, A2, hz2, hA2⟩ := hp2
  subst hz2
  have hB2 := hB0.app hA2
  refine bk_putF hB2 dX8_init_21 cls_X8 0 (by decide) fl_X8_23 ⟨rfl, rfl, rfl⟩ rfl rfl (Nat.le_of_ble_eq_true rfl) 0 (by decide) rfl rfl (fun H3 hB3 => ?_)
  refine gr_aload_n dX8_init_24 rfl ?_
  refine gr_newO dX8_init_25 cls_X2 ⟨cl_X8_27, wn_X2, wi_X2⟩ (fs := [.null, .null, .null, .null]) (fun j hj => by rcases j with _ | _ | _ | _ | j <;> first | rfl | omega) ⟨(Nat.le_of_ble_eq_true rfl), (Nat.le_of_ble_eq_true rfl)⟩ (fun q4 hq4 => ?_)
  refine gr_dup dX8_init_28 rfl ?_
  refine gr_callIN dX8_init_29 (c_X2_init l E (d + 1) _ q4 hq4) ysX2_init rfl rfl ⟨List.mem_of_getElem? (show ga_Nst[0]? = some _ from rfl), im_X2_init⟩ rfl rfl (Nat.le_of_ble_eq_true rfl) ⟨(Nat.le_refl _), (Nat.le_refl _)⟩ ⟨(Nat.le_of_ble_eq_true rfl), (Nat.le_of_ble_eq_true rfl)⟩ (fun r5 H5 hp5 => ?_)
  obtain ⟨rfl, A5, hz5, hA5⟩ := hp5
  subst hz5
  have hB5 := hB3.app hA5
  refine bk_putF hB5 dX8_init_32 cls_X8 1 (by decide) fl_X8_30 ⟨rfl, rfl, rfl⟩ rfl rfl (Nat.le_of_ble_eq_true rfl) 0 (by decide) rfl rfl (fun H6 hB6 => ?_)
  refine gr_aload_n dX8_init_35 rfl ?_
  refine gr_newO dX8_init_36 cls_X0 ⟨cl_X8_34, wn_X0, wi_X0⟩ (fs := [.null, .null, .null, .int 0, .null, .int 0, .null, .int 0, .null, .null]) (fun j hj => by rcases j with _ | _ | _ | _ | _ | _ | _ | _ | _ | _ | j <;> first | rfl | omega) ⟨(Nat.le_of_ble_eq_true rfl), (Nat.le_of_ble_eq_true rfl)⟩ (fun q7 hq7 => ?_)
  refine gr_dup dX8_init_39 rfl ?_
  refine gr_aload_n dX8_init_40 rfl ?_
  refine gr_getf dX8_init_41 cls_X8 1 (by decide) fl_X8_30 ((ga_up_ne (fun z => (hB6.new hq7).2 0 (by decide) z.symm)).trans (hB6.at (k := 0) (by decide))) rfl ?_
  refine gr_callI dX8_init_44 (c_X0_init l E d _ q7 hq7 _) ysX0_init rfl rfl ⟨ml_X8_36, im_X0_init⟩ rfl rfl (Nat.le_of_ble_eq_true rfl) ⟨(Nat.le_refl _), (Nat.le_refl _)⟩ ⟨(Nat.le_of_ble_eq_true rfl), (Nat.le_of_ble_eq_true rfl)⟩ (fun r8 H8 hp8 => ?_)
  obtain ⟨rfl, A8, hz8, hA8⟩ := hp8
  subst hz8
  have hB8 := hB6.app hA8
  refine bk_putF hB8 dX8_init_47 cls_X8 2 (by decide) fl_X8_39 ⟨rfl, rfl, rfl⟩ rfl rfl (Nat.le_of_ble_eq_true rfl) 0 (by decide) rfl rfl (fun H9 hB9 => ?_)
  refine gr_aload_n dX8_init_50 rfl ?_
  refine gr_newO dX8_init_51 cls_X7 ⟨cl_X8_43, wn_X7, wi_X7⟩ (fs := [.null, .int 0, .int 0]) (fun j hj => by rcases j with _ | _ | _ | j <;> first | rfl | omega) ⟨(Nat.le_of_ble_eq_true rfl), (Nat.le_of_ble_eq_true rfl)⟩ (fun q10 hq10 => ?_)
  refine gr_dup dX8_init_54 rfl ?_
  refine gr_callIN dX8_init_55 (c_X7_init l E (d + 1) _ q10 hq10) ysX7_init rfl rfl ⟨List.mem_of_getElem? (show ga_Nst[3]? = some _ from rfl), im_X7_init⟩ rfl rfl (Nat.le_of_ble_eq_true rfl) ⟨(Nat.le_refl _), (Nat.le_refl _)⟩ ⟨(Nat.le_of_ble_eq_true rfl), (Nat.le_of_ble_eq_true rfl)⟩ (fun r11 H11 hp11 => ?_)
  obtain ⟨rfl, A11, hz11, hA11⟩ := hp11
  subst hz11
  have hB11 := hB9.app hA11
  refine bk_putF hB11 dX8_init_58 cls_X8 3 (by decide) fl_X8_46 ⟨rfl, rfl, rfl⟩ rfl rfl (Nat.le_of_ble_eq_true rfl) 0 (by decide) rfl rfl (fun H12 hB12 => ?_)
  refine gr_aload_n dX8_init_61 rfl ?_
  refine gr_newO dX8_init_62 cls_X5 ⟨cl_X8_50, wn_X5, wi_X5⟩ (fs := [.null, .null, .null, .null, .null, .null, .int 0]) (fun j hj => by rcases j with _ | _ | _ | _ | _ | _ | _ | j <;> first | rfl | omega) ⟨(Nat.le_of_ble_eq_true rfl), (Nat.le_of_ble_eq_true rfl)⟩ (fun q13 hq13 => ?_)
  refine gr_dup dX8_init_65 rfl ?_
  refine gr_callIN dX8_init_66 (c_X5_init l E (d + 1) _ q13 hq13) ysX5_init rfl rfl ⟨List.mem_of_getElem? (show ga_Nst[4]? = some _ from rfl), im_X5_init⟩ rfl rfl (Nat.le_of_ble_eq_true rfl) ⟨(Nat.le_refl _), (Nat.le_refl _)⟩ ⟨(Nat.le_of_ble_eq_true rfl), (Nat.le_of_ble_eq_true rfl)⟩ (fun r14 H14 hp14 => ?_)
  obtain ⟨rfl, A14, hz14, hA14⟩ := hp14
  subst hz14
  have hB14 := hB12.app hA14
  refine bk_putF hB14 dX8_init_69 cls_X8 4 (by decide) fl_X8_53 ⟨rfl, rfl, rfl⟩ rfl rfl (Nat.le_of_ble_eq_true rfl) 0 (by decide) rfl rfl (fun H15 hB15 => ?_)
  refine gr_aload_n dX8_init_72 rfl ?_
  refine gr_bipush (v := nI 13) dX8_init_73 (by decide) ?_
  refine bk_newI hB15 dX8_init_75 (by decide) ⟨(Nat.le_of_ble_eq_true rfl), (Nat.le_of_ble_eq_true rfl)⟩ (fun q16 H16 hB16 => ?_)
  refine bk_putF hB16 dX8_init_77 cls_X8 6 (by decide) fl_X8_57 ⟨rfl, rfl, rfl⟩ rfl rfl (Nat.le_of_ble_eq_true rfl) 0 (by decide) rfl rfl (fun H17 hB17 => ?_)
  refine gr_return dX8_init_80 rfl (Nat.le_of_ble_eq_true rfl) (Nat.le_of_ble_eq_true rfl) ⟨rfl, _, _, rfl, hB17.perm (fun k => if k = 0 then 0 else if k = 1 then 64 else k - 1) (fun k => if k = 0 then 0 else if k = 64 then 1 else k + 1) (fun k hk => ?_) (fun k hk => ?_), ?_⟩
  · show (if k = 0 then 0 else if k = 1 then 64 else k - 1) < 65 ∧ (if (if k = 0 then 0 else if k = 1 then 64 else k - 1) = 0 then 0 else if (if k = 0 then 0 else if k = 1 then 64 else k - 1) = 64 then 1 else (if k = 0 then 0 else if k = 1 then 64 else k - 1) + 1) = k
    split <;> (try split) <;> (try split) <;> (try split) <;> omega
  · show (if k = 0 then 0 else if k = 64 then 1 else k + 1) < 65 ∧ (if (if k = 0 then 0 else if k = 64 then 1 else k + 1) = 0 then 0 else if (if k = 0 then 0 else if k = 64 then 1 else k + 1) = 1 then 64 else (if k = 0 then 0 else if k = 64 then 1 else k + 1) - 1) = k
    split <;> (try split) <;> (try split) <;> (try split) <;> omega
  · refine ⟨rfl, rfl, fun k hk => ?_, ⟨fun _ => z0, fun _ => false, fun _ => some 0, z0, fun _ _ => rfl, fun k hk => ?_⟩, rfl, ⟨z0, z0, z0, z0, z0, ⟨fun _ _ => rfl, fun _ _ => rfl, fun _ _ => rfl, fun _ _ => rfl, fun _ _ => rfl⟩, fun k hk => ?_⟩, ⟨z0, rfl⟩, rfl, rfl, rfl, rfl, ?_, fun i hi => ?_, rfl, rfl, ⟨z0, z0, z0, z0, z0, ⟨fun _ _ => rfl, fun _ _ => rfl, fun _ _ => rfl, fun _ _ => rfl, fun _ _ => rfl⟩, fun k hk => ?_⟩⟩
    · rcases k with _ | _ | _ | _ | _ | _ | _ | _ | k
      · rfl
      · refine congrArg (ga_ii E 5) (funext fun i => ?_)
        rcases i with _ | _ | _ | _ | _ | i <;> rfl
      · rfl
      · rfl
      · rfl
      · rfl
      · rfl
      · rfl
      · omega
    · rcases k with _ | _ | _ | _ | _ | _ | _ | _ | _ | _ | _ | _ | _ | _ | _ | _ | _ | _ | _ | _ | _ | _ | _ | _ | k
      · rfl
      · refine congrArg (ga_ii E 19) (funext fun i => ?_)
        rcases i with _ | _ | _ | _ | _ | _ | _ | _ | _ | _ | _ | _ | _ | _ | _ | _ | _ | _ | _ | i <;> rfl
      · rfl
      · rfl
      · rfl
      · rfl
      · rfl
      · rfl
      · rfl
      · rfl
      · rfl
      · rfl
      · rfl
      · rfl
      · rfl
      · rfl
      · rfl
      · rfl
      · rfl
      · rfl
      · rfl
      · rfl
      · rfl
      · rfl
      · omega
    · rcases k with _ | _ | _ | _ | _ | _ | _ | k
      · rfl
      · rfl
      · rfl
      · rfl
      · rfl
      · rfl
      · rfl
      · omega
    · refine congrArg (ga_rr E 4) (funext fun i => ?_)
      rcases i with _ | _ | _ | _ | i <;> rfl
    · rcases i with _ | _ | _ | _ | i
      · exact ⟨rfl, rfl⟩
      · exact ⟨rfl, rfl⟩
      · exact ⟨rfl, rfl⟩
      · exact ⟨rfl, rfl⟩
      · omega
    · rcases k with _ | _ | _ | _ | _ | _ | _ | k
      · rfl
      · rfl
      · rfl
      · rfl
      · rfl
      · rfl
      · rfl
      · omega
