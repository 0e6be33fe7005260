/-! The constructors that make objects of other classes -/
def anC (E : ga_E) (A : Nat → Nat) : Nat → va_E
  | 0 => ga_o 2 [.ref (A 1), .ref (A 8), .int (nI 0), .ref (A 9), .int (nI 0), .ref (A 11), .int (nI 0), .ref (A 12), .ref (A 13)]
  | 1 => roC E (fun j => A (1 + j)) 0 z0 z0 z0 z0 z0 z0 0
  | 2 => roC E (fun j => A (1 + j)) 0 z0 z0 z0 z0 z0 z0 1
  | 3 => roC E (fun j => A (1 + j)) 0 z0 z0 z0 z0 z0 z0 2
  | 4 => roC E (fun j => A (1 + j)) 0 z0 z0 z0 z0 z0 z0 3
  | 5 => roC E (fun j => A (1 + j)) 0 z0 z0 z0 z0 z0 z0 4
  | 6 => roC E (fun j => A (1 + j)) 0 z0 z0 z0 z0 z0 z0 5
  | 7 => roC E (fun j => A (1 + j)) 0 z0 z0 z0 z0 z0 z0 6
  | 8 => ga_f E 7 z0
  | 9 => ga_o 6 [.ref (A 10), .int (nI 0)]
  | 10 => ga_f E 169 z0
  | 11 => ga_f E 13 z0
  | 12 => ga_f E 4 z0
  | 13 => ga_rr E 4 (fun i => if i < 4 then some (A (14 + 2 * i)) else none)
  | 14 => ga_o 6 [.ref (A 15), .int (nI 0)]
  | 15 => ga_f E 169 z0
  | 16 => ga_o 6 [.ref (A 17), .int (nI 0)]
  | 17 => ga_f E 169 z0
  | 18 => ga_o 6 [.ref (A 19), .int (nI 0)]
  | 19 => ga_f E 169 z0
  | 20 => ga_o 6 [.ref (A 21), .int (nI 0)]
  | 21 => ga_f E 169 z0
  | _ => ga_f E 4 z0
set_option maxHeartbeats 4000000 in
set_option maxRecDepth 100000 in
theorem c_X0_init (l : Launch) (E : ga_E) (d : Nat) (h : ga_H) (q : Nat) (hq : h q = none) : ga_Ok l E (d + 2) mX0_init [.ref q] (ga_up h q (ga_o 2 [.null, .null, .int 0, .null, .int 0, .null, .int 0, .null, .null])) 21 937 (fun r0 h' => r0 = none ∧ ∃ A, A 0 = q ∧ Blk h A (anC E A) 22 h') := by
  refine ga_Ok.of 1 _ (by decide) rfl (Nat.le_of_ble_eq_true rfl) rfl ?_
  have hB0 : BkL h [q] [ga_o 2 [.null, .null, .int 0, .null, .int 0, .null, .int 0, .null, .null]] _ := BkL_1 hq _
  refine gr_aload_n dX0_init_0 rfl ?_
  refine gr_objInit dX0_init_1 ml_X0_3 ⟨by show 1 ≤ d + 2; omega, by show 64 ≤ 64 * (d + 2); omega⟩ (by decide) ?_
  refine gr_aload_n dX0_init_4 rfl ?_
  refine gr_newO dX0_init_5 cls_X5 ⟨cl_X0_9, wn_X5, wi_X5⟩ (fs := [.null, .null, .null, .null, .null, .null, .int 0]) (fun j hj => by rcases j with _ | _ | _ | _ | _ | _ | _ | j <;> first | rfl | omega) ⟨(Nat.le_of_ble_eq_true rfl), (Nat.le_of_ble_eq_true rfl)⟩ (fun q1 hq1 => ?_)
  refine gr_dup dX0_init_8 rfl ?_
  refine gr_callIN dX0_init_9 (c_X5_init l E d _ q1 hq1) ysX5_init rfl rfl ⟨List.mem_of_getElem? (show ga_Nst[1]? = some _ from rfl), im_X5_init⟩ rfl rfl (Nat.le_of_ble_eq_true rfl) ⟨(Nat.le_refl _), (Nat.le_refl _)⟩ ⟨(Nat.le_of_ble_eq_true rfl), (Nat.le_of_ble_eq_true rfl)⟩ (fun r2 H2 hp2 => ?_)
  obtain ⟨rfl, A2, hz2, hA2⟩ := hp2
  subst hz2
  have hB2 : BkL h [q, A2 0, A2 1, A2 2, A2 3, A2 4, A2 5, A2 6] [ga_o 2 [.null, .null, .int 0, .null, .int 0, .null, .int 0, .null, .null], roC E A2 0 z0 z0 z0 z0 z0 z0 0, roC E A2 0 z0 z0 z0 z0 z0 z0 1, roC E A2 0 z0 z0 z0 z0 z0 z0 2, roC E A2 0 z0 z0 z0 z0 z0 z0 3, roC E A2 0 z0 z0 z0 z0 z0 z0 4, roC E A2 0 z0 z0 z0 z0 z0 z0 5, roC E A2 0 z0 z0 z0 z0 z0 z0 6] H2 := hB0.app hA2
  refine bl_putF hB2 dX0_init_12 cls_X0 0 (by decide) fl_X0_12 ⟨rfl, rfl, rfl⟩ rfl rfl (Nat.le_of_ble_eq_true rfl) (Nat.le_of_ble_eq_true rfl) rfl rfl (fun H3 (hB3 : BkL h [q, A2 0, A2 1, A2 2, A2 3, A2 4, A2 5, A2 6] [ga_o 2 [.ref (A2 0), .null, .int 0, .null, .int 0, .null, .int 0, .null, .null], roC E A2 0 z0 z0 z0 z0 z0 z0 0, roC E A2 0 z0 z0 z0 z0 z0 z0 1, roC E A2 0 z0 z0 z0 z0 z0 z0 2, roC E A2 0 z0 z0 z0 z0 z0 z0 3, roC E A2 0 z0 z0 z0 z0 z0 z0 4, roC E A2 0 z0 z0 z0 z0 z0 z0 5, roC E A2 0 z0 z0 z0 z0 z0 z0 6] H3) => ?_)
  refine gr_aload_n dX0_init_15 rfl ?_
  refine gr_bipush (v := nI 7) dX0_init_16 (by decide) ?_
  refine bl_newI hB3 dX0_init_18 (by decide) ⟨(Nat.le_of_ble_eq_true rfl), (Nat.le_of_ble_eq_true rfl)⟩ (fun q4 H4 (hB4 : BkL h [q, A2 0, A2 1, A2 2, A2 3, A2 4, A2 5, A2 6, q4] [ga_o 2 [.ref (A2 0), .null, .int 0, .null, .int 0, .null, .int 0, .null, .null], roC E A2 0 z0 z0 z0 z0 z0 z0 0, roC E A2 0 z0 z0 z0 z0 z0 z0 1, roC E A2 0 z0 z0 z0 z0 z0 z0 2, roC E A2 0 z0 z0 z0 z0 z0 z0 3, roC E A2 0 z0 z0 z0 z0 z0 z0 4, roC E A2 0 z0 z0 z0 z0 z0 z0 5, roC E A2 0 z0 z0 z0 z0 z0 z0 6, ga_i E 7 (fun _ => 0)] H4) => ?_)
  refine bl_putF hB4 dX0_init_20 cls_X0 1 (by decide) fl_X0_18 ⟨rfl, rfl, rfl⟩ rfl rfl (Nat.le_of_ble_eq_true rfl) (Nat.le_of_ble_eq_true rfl) rfl rfl (fun H5 (hB5 : BkL h [q, A2 0, A2 1, A2 2, A2 3, A2 4, A2 5, A2 6, q4] [ga_o 2 [.ref (A2 0), .ref q4, .int 0, .null, .int 0, .null, .int 0, .null, .null], roC E A2 0 z0 z0 z0 z0 z0 z0 0, roC E A2 0 z0 z0 z0 z0 z0 z0 1, roC E A2 0 z0 z0 z0 z0 z0 z0 2, roC E A2 0 z0 z0 z0 z0 z0 z0 3, roC E A2 0 z0 z0 z0 z0 z0 z0 4, roC E A2 0 z0 z0 z0 z0 z0 z0 5, roC E A2 0 z0 z0 z0 z0 z0 z0 6, ga_i E 7 (fun _ => 0)] H5) => ?_)
  refine gr_aload_n dX0_init_23 rfl ?_
  refine gr_newO dX0_init_24 cls_X6 ⟨cl_X0_22, wn_X6, wi_X6⟩ (fs := [.null, .int 0]) (fun j hj => by rcases j with _ | _ | j <;> first | rfl | omega) ⟨(Nat.le_of_ble_eq_true rfl), (Nat.le_of_ble_eq_true rfl)⟩ (fun q6 hq6 => ?_)
  refine gr_dup dX0_init_27 rfl ?_
  refine gr_callIN dX0_init_28 (c_X6_init l E d _ q6 hq6) ysX6_init rfl rfl ⟨List.mem_of_getElem? (show ga_Nst[2]? = some _ from rfl), im_X6_init⟩ rfl rfl (Nat.le_of_ble_eq_true rfl) ⟨(Nat.le_refl _), (Nat.le_refl _)⟩ ⟨(Nat.le_of_ble_eq_true rfl), (Nat.le_of_ble_eq_true rfl)⟩ (fun r7 H7 hp7 => ?_)
  obtain ⟨rfl, A7, hz7, hA7⟩ := hp7
  subst hz7
  have hB7 : BkL h [q, A2 0, A2 1, A2 2, A2 3, A2 4, A2 5, A2 6, q4, A7 0, A7 1] [ga_o 2 [.ref (A2 0), .ref q4, .int 0, .null, .int 0, .null, .int 0, .null, .null], roC E A2 0 z0 z0 z0 z0 z0 z0 0, roC E A2 0 z0 z0 z0 z0 z0 z0 1, roC E A2 0 z0 z0 z0 z0 z0 z0 2, roC E A2 0 z0 z0 z0 z0 z0 z0 3, roC E A2 0 z0 z0 z0 z0 z0 z0 4, roC E A2 0 z0 z0 z0 z0 z0 z0 5, roC E A2 0 z0 z0 z0 z0 z0 z0 6, ga_i E 7 (fun _ => 0), rwC E A7 0, rwC E A7 1] H7 := hB5.app hA7
  refine bl_putF hB7 dX0_init_31 cls_X0 3 (by decide) fl_X0_25 ⟨rfl, rfl, rfl⟩ rfl rfl (Nat.le_of_ble_eq_true rfl) (Nat.le_of_ble_eq_true rfl) rfl rfl (fun H8 (hB8 : BkL h [q, A2 0, A2 1, A2 2, A2 3, A2 4, A2 5, A2 6, q4, A7 0, A7 1] [ga_o 2 [.ref (A2 0), .ref q4, .int 0, .ref (A7 0), .int 0, .null, .int 0, .null, .null], roC E A2 0 z0 z0 z0 z0 z0 z0 0, roC E A2 0 z0 z0 z0 z0 z0 z0 1, roC E A2 0 z0 z0 z0 z0 z0 z0 2, roC E A2 0 z0 z0 z0 z0 z0 z0 3, roC E A2 0 z0 z0 z0 z0 z0 z0 4, roC E A2 0 z0 z0 z0 z0 z0 z0 5, roC E A2 0 z0 z0 z0 z0 z0 z0 6, ga_i E 7 (fun _ => 0), rwC E A7 0, rwC E A7 1] H8) => ?_)
  refine gr_aload_n dX0_init_34 rfl ?_
  refine gr_bipush (v := nI 13) dX0_init_35 (by decide) ?_
  refine bl_newI hB8 dX0_init_37 (by decide) ⟨(Nat.le_of_ble_eq_true rfl), (Nat.le_of_ble_eq_true rfl)⟩ (fun q9 H9 (hB9 : BkL h [q, A2 0, A2 1, A2 2, A2 3, A2 4, A2 5, A2 6, q4, A7 0, A7 1, q9] [ga_o 2 [.ref (A2 0), .ref q4, .int 0, .ref (A7 0), .int 0, .null, .int 0, .null, .null], roC E A2 0 z0 z0 z0 z0 z0 z0 0, roC E A2 0 z0 z0 z0 z0 z0 z0 1, roC E A2 0 z0 z0 z0 z0 z0 z0 2, roC E A2 0 z0 z0 z0 z0 z0 z0 3, roC E A2 0 z0 z0 z0 z0 z0 z0 4, roC E A2 0 z0 z0 z0 z0 z0 z0 5, roC E A2 0 z0 z0 z0 z0 z0 z0 6, ga_i E 7 (fun _ => 0), rwC E A7 0, rwC E A7 1, ga_i E 13 (fun _ => 0)] H9) => ?_)
  refine bl_putF hB9 dX0_init_39 cls_X0 5 (by decide) fl_X0_29 ⟨rfl, rfl, rfl⟩ rfl rfl (Nat.le_of_ble_eq_true rfl) (Nat.le_of_ble_eq_true rfl) rfl rfl (fun H10 (hB10 : BkL h [q, A2 0, A2 1, A2 2, A2 3, A2 4, A2 5, A2 6, q4, A7 0, A7 1, q9] [ga_o 2 [.ref (A2 0), .ref q4, .int 0, .ref (A7 0), .int 0, .ref q9, .int 0, .null, .null], roC E A2 0 z0 z0 z0 z0 z0 z0 0, roC E A2 0 z0 z0 z0 z0 z0 z0 1, roC E A2 0 z0 z0 z0 z0 z0 z0 2, roC E A2 0 z0 z0 z0 z0 z0 z0 3, roC E A2 0 z0 z0 z0 z0 z0 z0 4, roC E A2 0 z0 z0 z0 z0 z0 z0 5, roC E A2 0 z0 z0 z0 z0 z0 z0 6, ga_i E 7 (fun _ => 0), rwC E A7 0, rwC E A7 1, ga_i E 13 (fun _ => 0)] H10) => ?_)
  refine gr_aload_n dX0_init_42 rfl ?_
  refine gr_iconst (v := nI 4) dX0_init_43 rfl ?_
  refine bl_newI hB10 dX0_init_44 (by decide) ⟨(Nat.le_of_ble_eq_true rfl), (Nat.le_of_ble_eq_true rfl)⟩ (fun q11 H11 (hB11 : BkL h [q, A2 0, A2 1, A2 2, A2 3, A2 4, A2 5, A2 6, q4, A7 0, A7 1, q9, q11] [ga_o 2 [.ref (A2 0), .ref q4, .int 0, .ref (A7 0), .int 0, .ref q9, .int 0, .null, .null], roC E A2 0 z0 z0 z0 z0 z0 z0 0, roC E A2 0 z0 z0 z0 z0 z0 z0 1, roC E A2 0 z0 z0 z0 z0 z0 z0 2, roC E A2 0 z0 z0 z0 z0 z0 z0 3, roC E A2 0 z0 z0 z0 z0 z0 z0 4, roC E A2 0 z0 z0 z0 z0 z0 z0 5, roC E A2 0 z0 z0 z0 z0 z0 z0 6, ga_i E 7 (fun _ => 0), rwC E A7 0, rwC E A7 1, ga_i E 13 (fun _ => 0), ga_i E 4 (fun _ => 0)] H11) => ?_)
  refine bl_putF hB11 dX0_init_46 cls_X0 7 (by decide) fl_X0_32 ⟨rfl, rfl, rfl⟩ rfl rfl (Nat.le_of_ble_eq_true rfl) (Nat.le_of_ble_eq_true rfl) rfl rfl (fun H12 (hB12 : BkL h [q, A2 0, A2 1, A2 2, A2 3, A2 4, A2 5, A2 6, q4, A7 0, A7 1, q9, q11] [ga_o 2 [.ref (A2 0), .ref q4, .int 0, .ref (A7 0), .int 0, .ref q9, .int 0, .ref q11, .null], roC E A2 0 z0 z0 z0 z0 z0 z0 0, roC E A2 0 z0 z0 z0 z0 z0 z0 1, roC E A2 0 z0 z0 z0 z0 z0 z0 2, roC E A2 0 z0 z0 z0 z0 z0 z0 3, roC E A2 0 z0 z0 z0 z0 z0 z0 4, roC E A2 0 z0 z0 z0 z0 z0 z0 5, roC E A2 0 z0 z0 z0 z0 z0 z0 6, ga_i E 7 (fun _ => 0), rwC E A7 0, rwC E A7 1, ga_i E 13 (fun _ => 0), ga_i E 4 (fun _ => 0)] H12) => ?_)
  refine gr_aload_n dX0_init_49 rfl ?_
  refine gr_iconst (v := nI 4) dX0_init_50 rfl ?_
  refine bl_newR hB12 dX0_init_51 cl_X0_22 (by decide) ⟨(Nat.le_of_ble_eq_true rfl), (Nat.le_of_ble_eq_true rfl)⟩ (fun q13 H13 (hB13 : BkL h [q, A2 0, A2 1, A2 2, A2 3, A2 4, A2 5, A2 6, q4, A7 0, A7 1, q9, q11, q13] [ga_o 2 [.ref (A2 0), .ref q4, .int 0, .ref (A7 0), .int 0, .ref q9, .int 0, .ref q11, .null], roC E A2 0 z0 z0 z0 z0 z0 z0 0, roC E A2 0 z0 z0 z0 z0 z0 z0 1, roC E A2 0 z0 z0 z0 z0 z0 z0 2, roC E A2 0 z0 z0 z0 z0 z0 z0 3, roC E A2 0 z0 z0 z0 z0 z0 z0 4, roC E A2 0 z0 z0 z0 z0 z0 z0 5, roC E A2 0 z0 z0 z0 z0 z0 z0 6, ga_i E 7 (fun _ => 0), rwC E A7 0, rwC E A7 1, ga_i E 13 (fun _ => 0), ga_i E 4 (fun _ => 0), ga_rr E 4 (fun _ => none)] H13) => ?_)
  refine bl_putF hB13 dX0_init_54 cls_X0 8 (by decide) fl_X0_35 ⟨rfl, rfl, rfl⟩ rfl rfl (Nat.le_of_ble_eq_true rfl) (Nat.le_of_ble_eq_true rfl) rfl rfl (fun H14 (hB14 : BkL h [q, A2 0, A2 1, A2 2, A2 3, A2 4, A2 5, A2 6, q4, A7 0, A7 1, q9, q11, q13] [ga_o 2 [.ref (A2 0), .ref q4, .int 0, .ref (A7 0), .int 0, .ref q9, .int 0, .ref q11, .ref q13], roC E A2 0 z0 z0 z0 z0 z0 z0 0, roC E A2 0 z0 z0 z0 z0 z0 z0 1, roC E A2 0 z0 z0 z0 z0 z0 z0 2, roC E A2 0 z0 z0 z0 z0 z0 z0 3, roC E A2 0 z0 z0 z0 z0 z0 z0 4, roC E A2 0 z0 z0 z0 z0 z0 z0 5, roC E A2 0 z0 z0 z0 z0 z0 z0 6, ga_i E 7 (fun _ => 0), rwC E A7 0, rwC E A7 1, ga_i E 13 (fun _ => 0), ga_i E 4 (fun _ => 0), ga_rr E 4 (fun _ => none)] H14) => ?_)
  refine gr_iconst (v := nI 0) dX0_init_57 rfl ?_
  refine gr_istore_n dX0_init_58 (by decide) rfl ?_
  refine gr_iload_n dX0_init_59 rfl ?_
  refine gr_iconst (v := nI 4) dX0_init_60 rfl ?_
  refine gr_icmpgeN 83 dX0_init_61 (by decide) (by omega) (by omega) (fun z => absurd z (by omega)) (fun _ => ?_)
  refine gr_aload_n dX0_init_64 rfl ?_
  refine bl_getf hB14 dX0_init_65 cls_X0 8 (by decide) fl_X0_35 (Nat.le_of_ble_eq_true rfl) rfl rfl rfl ?_
  refine gr_iload_n dX0_init_68 rfl ?_
  refine gr_newO dX0_init_69 cls_X6 ⟨cl_X0_22, wn_X6, wi_X6⟩ (fs := [.null, .int 0]) (fun j hj => by rcases j with _ | _ | j <;> first | rfl | omega) ⟨(Nat.le_of_ble_eq_true rfl), (Nat.le_of_ble_eq_true rfl)⟩ (fun q15 hq15 => ?_)
  refine gr_dup dX0_init_72 rfl ?_
  refine gr_callIN dX0_init_73 (c_X6_init l E d _ q15 hq15) ysX6_init rfl rfl ⟨List.mem_of_getElem? (show ga_Nst[2]? = some _ from rfl), im_X6_init⟩ rfl rfl (Nat.le_of_ble_eq_true rfl) ⟨(Nat.le_refl _), (Nat.le_refl _)⟩ ⟨(Nat.le_of_ble_eq_true rfl), (Nat.le_of_ble_eq_true rfl)⟩ (fun r16 H16 hp16 => ?_)
  obtain ⟨rfl, A16, hz16, hA16⟩ := hp16
  subst hz16
  have hB16 : BkL h [q, A2 0, A2 1, A2 2, A2 3, A2 4, A2 5, A2 6, q4, A7 0, A7 1, q9, q11, q13, A16 0, A16 1] [ga_o 2 [.ref (A2 0), .ref q4, .int 0, .ref (A7 0), .int 0, .ref q9, .int 0, .ref q11, .ref q13], roC E A2 0 z0 z0 z0 z0 z0 z0 0, roC E A2 0 z0 z0 z0 z0 z0 z0 1, roC E A2 0 z0 z0 z0 z0 z0 z0 2, roC E A2 0 z0 z0 z0 z0 z0 z0 3, roC E A2 0 z0 z0 z0 z0 z0 z0 4, roC E A2 0 z0 z0 z0 z0 z0 z0 5, roC E A2 0 z0 z0 z0 z0 z0 z0 6, ga_i E 7 (fun _ => 0), rwC E A7 0, rwC E A7 1, ga_i E 13 (fun _ => 0), ga_i E 4 (fun _ => 0), ga_rr E 4 (fun _ => none), rwC E A16 0, rwC E A16 1] H16 := hB14.app hA16
  refine bl_aastR hB16 dX0_init_76 (by decide) (by decide) 13 (Nat.le_of_ble_eq_true rfl) rfl rfl 14 (Nat.le_of_ble_eq_true rfl) rfl rfl (fun H17 (hB17 : BkL h [q, A2 0, A2 1, A2 2, A2 3, A2 4, A2 5, A2 6, q4, A7 0, A7 1, q9, q11, q13, A16 0, A16 1] [ga_o 2 [.ref (A2 0), .ref q4, .int 0, .ref (A7 0), .int 0, .ref q9, .int 0, .ref q11, .ref q13], roC E A2 0 z0 z0 z0 z0 z0 z0 0, roC E A2 0 z0 z0 z0 z0 z0 z0 1, roC E A2 0 z0 z0 z0 z0 z0 z0 2, roC E A2 0 z0 z0 z0 z0 z0 z0 3, roC E A2 0 z0 z0 z0 z0 z0 z0 4, roC E A2 0 z0 z0 z0 z0 z0 z0 5, roC E A2 0 z0 z0 z0 z0 z0 z0 6, ga_i E 7 (fun _ => 0), rwC E A7 0, rwC E A7 1, ga_i E 13 (fun _ => 0), ga_i E 4 (fun _ => 0), ga_rr E 4 (va_up (fun _ => none) 0 (some (A16 0))), rwC E A16 0, rwC E A16 1] H17) => ?_)
  refine gr_iinc (v := nI 1) dX0_init_77 rfl (nI_1 _) (by decide) rfl ?_
  refine gr_goto 59 dX0_init_80 (by decide) ?_
  refine gr_iload_n dX0_init_59 rfl ?_
  refine gr_iconst (v := nI 4) dX0_init_60 rfl ?_
  refine gr_icmpgeN 83 dX0_init_61 (by decide) (by omega) (by omega) (fun z => absurd z (by omega)) (fun _ => ?_)
  refine gr_aload_n dX0_init_64 rfl ?_
  refine bl_getf hB17 dX0_init_65 cls_X0 8 (by decide) fl_X0_35 (Nat.le_of_ble_eq_true rfl) rfl rfl rfl ?_
  refine gr_iload_n dX0_init_68 rfl ?_
  refine gr_newO dX0_init_69 cls_X6 ⟨cl_X0_22, wn_X6, wi_X6⟩ (fs := [.null, .int 0]) (fun j hj => by rcases j with _ | _ | j <;> first | rfl | omega) ⟨(Nat.le_of_ble_eq_true rfl), (Nat.le_of_ble_eq_true rfl)⟩ (fun q18 hq18 => ?_)
  refine gr_dup dX0_init_72 rfl ?_
  refine gr_callIN dX0_init_73 (c_X6_init l E d _ q18 hq18) ysX6_init rfl rfl ⟨List.mem_of_getElem? (show ga_Nst[2]? = some _ from rfl), im_X6_init⟩ rfl rfl (Nat.le_of_ble_eq_true rfl) ⟨(Nat.le_refl _), (Nat.le_refl _)⟩ ⟨(Nat.le_of_ble_eq_true rfl), (Nat.le_of_ble_eq_true rfl)⟩ (fun r19 H19 hp19 => ?_)
  obtain ⟨rfl, A19, hz19, hA19⟩ := hp19
  subst hz19
  have hB19 : BkL h [q, A2 0, A2 1, A2 2, A2 3, A2 4, A2 5, A2 6, q4, A7 0, A7 1, q9, q11, q13, A16 0, A16 1, A19 0, A19 1] [ga_o 2 [.ref (A2 0), .ref q4, .int 0, .ref (A7 0), .int 0, .ref q9, .int 0, .ref q11, .ref q13], roC E A2 0 z0 z0 z0 z0 z0 z0 0, roC E A2 0 z0 z0 z0 z0 z0 z0 1, roC E A2 0 z0 z0 z0 z0 z0 z0 2, roC E A2 0 z0 z0 z0 z0 z0 z0 3, roC E A2 0 z0 z0 z0 z0 z0 z0 4, roC E A2 0 z0 z0 z0 z0 z0 z0 5, roC E A2 0 z0 z0 z0 z0 z0 z0 6, ga_i E 7 (fun _ => 0), rwC E A7 0, rwC E A7 1, ga_i E 13 (fun _ => 0), ga_i E 4 (fun _ => 0), ga_rr E 4 (va_up (fun _ => none) 0 (some (A16 0))), rwC E A16 0, rwC E A16 1, rwC E A19 0, rwC E A19 1] H19 := hB17.app hA19
  refine bl_aastR hB19 dX0_init_76 (by decide) (by decide) 13 (Nat.le_of_ble_eq_true rfl) rfl rfl 16 (Nat.le_of_ble_eq_true rfl) rfl rfl (fun H20 (hB20 : BkL h [q, A2 0, A2 1, A2 2, A2 3, A2 4, A2 5, A2 6, q4, A7 0, A7 1, q9, q11, q13, A16 0, A16 1, A19 0, A19 1] [ga_o 2 [.ref (A2 0), .ref q4, .int 0, .ref (A7 0), .int 0, .ref q9, .int 0, .ref q11, .ref q13], roC E A2 0 z0 z0 z0 z0 z0 z0 0, roC E A2 0 z0 z0 z0 z0 z0 z0 1, roC E A2 0 z0 z0 z0 z0 z0 z0 2, roC E A2 0 z0 z0 z0 z0 z0 z0 3, roC E A2 0 z0 z0 z0 z0 z0 z0 4, roC E A2 0 z0 z0 z0 z0 z0 z0 5, roC E A2 0 z0 z0 z0 z0 z0 z0 6, ga_i E 7 (fun _ => 0), rwC E A7 0, rwC E A7 1, ga_i E 13 (fun _ => 0), ga_i E 4 (fun _ => 0), ga_rr E 4 (va_up (va_up (fun _ => none) 0 (some (A16 0))) 1 (some (A19 0))), rwC E A16 0, rwC E A16 1, rwC E A19 0, rwC E A19 1] H20) => ?_)
  refine gr_iinc (v := nI 2) dX0_init_77 rfl (nI_1 _) (by decide) rfl ?_
  refine gr_goto 59 dX0_init_80 (by decide) ?_
  refine gr_iload_n dX0_init_59 rfl ?_
  refine gr_iconst (v := nI 4) dX0_init_60 rfl ?_
  refine gr_icmpgeN 83 dX0_init_61 (by decide) (by omega) (by omega) (fun z => absurd z (by omega)) (fun _ => ?_)
  refine gr_aload_n dX0_init_64 rfl ?_
  refine bl_getf hB20 dX0_init_65 cls_X0 8 (by decide) fl_X0_35 (Nat.le_of_ble_eq_true rfl) rfl rfl rfl ?_
  refine gr_iload_n dX0_init_68 rfl ?_
  refine gr_newO dX0_init_69 cls_X6 ⟨cl_X0_22, wn_X6, wi_X6⟩ (fs := [.null, .int 0]) (fun j hj => by rcases j with _ | _ | j <;> first | rfl | omega) ⟨(Nat.le_of_ble_eq_true rfl), (Nat.le_of_ble_eq_true rfl)⟩ (fun q21 hq21 => ?_)
  refine gr_dup dX0_init_72 rfl ?_
  refine gr_callIN dX0_init_73 (c_X6_init l E d _ q21 hq21) ysX6_init rfl rfl ⟨List.mem_of_getElem? (show ga_Nst[2]? = some _ from rfl), im_X6_init⟩ rfl rfl (Nat.le_of_ble_eq_true rfl) ⟨(Nat.le_refl _), (Nat.le_refl _)⟩ ⟨(Nat.le_of_ble_eq_true rfl), (Nat.le_of_ble_eq_true rfl)⟩ (fun r22 H22 hp22 => ?_)
  obtain ⟨rfl, A22, hz22, hA22⟩ := hp22
  subst hz22
  have hB22 : BkL h [q, A2 0, A2 1, A2 2, A2 3, A2 4, A2 5, A2 6, q4, A7 0, A7 1, q9, q11, q13, A16 0, A16 1, A19 0, A19 1, A22 0, A22 1] [ga_o 2 [.ref (A2 0), .ref q4, .int 0, .ref (A7 0), .int 0, .ref q9, .int 0, .ref q11, .ref q13], roC E A2 0 z0 z0 z0 z0 z0 z0 0, roC E A2 0 z0 z0 z0 z0 z0 z0 1, roC E A2 0 z0 z0 z0 z0 z0 z0 2, roC E A2 0 z0 z0 z0 z0 z0 z0 3, roC E A2 0 z0 z0 z0 z0 z0 z0 4, roC E A2 0 z0 z0 z0 z0 z0 z0 5, roC E A2 0 z0 z0 z0 z0 z0 z0 6, ga_i E 7 (fun _ => 0), rwC E A7 0, rwC E A7 1, ga_i E 13 (fun _ => 0), ga_i E 4 (fun _ => 0), ga_rr E 4 (va_up (va_up (fun _ => none) 0 (some (A16 0))) 1 (some (A19 0))), rwC E A16 0, rwC E A16 1, rwC E A19 0, rwC E A19 1, rwC E A22 0, rwC E A22 1] H22 := hB20.app hA22
  refine bl_aastR hB22 dX0_init_76 (by decide) (by decide) 13 (Nat.le_of_ble_eq_true rfl) rfl rfl 18 (Nat.le_of_ble_eq_true rfl) rfl rfl (fun H23 (hB23 : BkL h [q, A2 0, A2 1, A2 2, A2 3, A2 4, A2 5, A2 6, q4, A7 0, A7 1, q9, q11, q13, A16 0, A16 1, A19 0, A19 1, A22 0, A22 1] [ga_o 2 [.ref (A2 0), .ref q4, .int 0, .ref (A7 0), .int 0, .ref q9, .int 0, .ref q11, .ref q13], roC E A2 0 z0 z0 z0 z0 z0 z0 0, roC E A2 0 z0 z0 z0 z0 z0 z0 1, roC E A2 0 z0 z0 z0 z0 z0 z0 2, roC E A2 0 z0 z0 z0 z0 z0 z0 3, roC E A2 0 z0 z0 z0 z0 z0 z0 4, roC E A2 0 z0 z0 z0 z0 z0 z0 5, roC E A2 0 z0 z0 z0 z0 z0 z0 6, ga_i E 7 (fun _ => 0), rwC E A7 0, rwC E A7 1, ga_i E 13 (fun _ => 0), ga_i E 4 (fun _ => 0), ga_rr E 4 (va_up (va_up (va_up (fun _ => none) 0 (some (A16 0))) 1 (some (A19 0))) 2 (some (A22 0))), rwC E A16 0, rwC E A16 1, rwC E A19 0, rwC E A19 1, rwC E A22 0, rwC E A22 1] H23) => ?_)
  refine gr_iinc (v := nI 3) dX0_init_77 rfl (nI_1 _) (by decide) rfl ?_
  refine gr_goto 59 dX0_init_80 (by decide) ?_
  refine gr_iload_n dX0_init_59 rfl ?_
  refine gr_iconst (v := nI 4) dX0_init_60 rfl ?_
  refine gr_icmpgeN 83 dX0_init_61 (by decide) (by omega) (by omega) (fun z => absurd z (by omega)) (fun _ => ?_)
  refine gr_aload_n dX0_init_64 rfl ?_
  refine bl_getf hB23 dX0_init_65 cls_X0 8 (by decide) fl_X0_35 (Nat.le_of_ble_eq_true rfl) rfl rfl rfl ?_
  refine gr_iload_n dX0_init_68 rfl ?_
  refine gr_newO dX0_init_69 cls_X6 ⟨cl_X0_22, wn_X6, wi_X6⟩ (fs := [.null, .int 0]) (fun j hj => by rcases j with _ | _ | j <;> first | rfl | omega) ⟨(Nat.le_of_ble_eq_true rfl), (Nat.le_of_ble_eq_true rfl)⟩ (fun q24 hq24 => ?_)
  refine gr_dup dX0_init_72 rfl ?_
  refine gr_callIN dX0_init_73 (c_X6_init l E d _ q24 hq24) ysX6_init rfl rfl ⟨List.mem_of_getElem? (show ga_Nst[2]? = some _ from rfl), im_X6_init⟩ rfl rfl (Nat.le_of_ble_eq_true rfl) ⟨(Nat.le_refl _), (Nat.le_refl _)⟩ ⟨(Nat.le_of_ble_eq_true rfl), (Nat.le_of_ble_eq_true rfl)⟩ (fun r25 H25 hp25 => ?_)
  obtain ⟨rfl, A25, hz25, hA25⟩ := hp25
  subst hz25
  have hB25 : BkL h [q, A2 0, A2 1, A2 2, A2 3, A2 4, A2 5, A2 6, q4, A7 0, A7 1, q9, q11, q13, A16 0, A16 1, A19 0, A19 1, A22 0, A22 1, A25 0, A25 1] [ga_o 2 [.ref (A2 0), .ref q4, .int 0, .ref (A7 0), .int 0, .ref q9, .int 0, .ref q11, .ref q13], roC E A2 0 z0 z0 z0 z0 z0 z0 0, roC E A2 0 z0 z0 z0 z0 z0 z0 1, roC E A2 0 z0 z0 z0 z0 z0 z0 2, roC E A2 0 z0 z0 z0 z0 z0 z0 3, roC E A2 0 z0 z0 z0 z0 z0 z0 4, roC E A2 0 z0 z0 z0 z0 z0 z0 5, roC E A2 0 z0 z0 z0 z0 z0 z0 6, ga_i E 7 (fun _ => 0), rwC E A7 0, rwC E A7 1, ga_i E 13 (fun _ => 0), ga_i E 4 (fun _ => 0), ga_rr E 4 (va_up (va_up (va_up (fun _ => none) 0 (some (A16 0))) 1 (some (A19 0))) 2 (some (A22 0))), rwC E A16 0, rwC E A16 1, rwC E A19 0, rwC E A19 1, rwC E A22 0, rwC E A22 1, rwC E A25 0, rwC E A25 1] H25 := hB23.app hA25
  refine bl_aastR hB25 dX0_init_76 (by decide) (by decide) 13 (Nat.le_of_ble_eq_true rfl) rfl rfl 20 (Nat.le_of_ble_eq_true rfl) rfl rfl (fun H26 (hB26 : BkL h [q, A2 0, A2 1, A2 2, A2 3, A2 4, A2 5, A2 6, q4, A7 0, A7 1, q9, q11, q13, A16 0, A16 1, A19 0, A19 1, A22 0, A22 1, A25 0, A25 1] [ga_o 2 [.ref (A2 0), .ref q4, .int 0, .ref (A7 0), .int 0, .ref q9, .int 0, .ref q11, .ref q13], roC E A2 0 z0 z0 z0 z0 z0 z0 0, roC E A2 0 z0 z0 z0 z0 z0 z0 1, roC E A2 0 z0 z0 z0 z0 z0 z0 2, roC E A2 0 z0 z0 z0 z0 z0 z0 3, roC E A2 0 z0 z0 z0 z0 z0 z0 4, roC E A2 0 z0 z0 z0 z0 z0 z0 5, roC E A2 0 z0 z0 z0 z0 z0 z0 6, ga_i E 7 (fun _ => 0), rwC E A7 0, rwC E A7 1, ga_i E 13 (fun _ => 0), ga_i E 4 (fun _ => 0), ga_rr E 4 (va_up (va_up (va_up (va_up (fun _ => none) 0 (some (A16 0))) 1 (some (A19 0))) 2 (some (A22 0))) 3 (some (A25 0))), rwC E A16 0, rwC E A16 1, rwC E A19 0, rwC E A19 1, rwC E A22 0, rwC E A22 1, rwC E A25 0, rwC E A25 1] H26) => ?_)
  refine gr_iinc (v := nI 4) dX0_init_77 rfl (nI_1 _) (by decide) rfl ?_
  refine gr_goto 59 dX0_init_80 (by decide) ?_
  refine gr_iload_n dX0_init_59 rfl ?_
  refine gr_iconst (v := nI 4) dX0_init_60 rfl ?_
  refine gr_icmpgeN 83 dX0_init_61 (by decide) (by omega) (by omega) (fun _ => ?_) (fun z => absurd z (by omega))
  refine gr_return dX0_init_83 rfl (Nat.le_of_ble_eq_true rfl) (Nat.le_of_ble_eq_true rfl) ⟨rfl, lz [q, A2 0, A2 1, A2 2, A2 3, A2 4, A2 5, A2 6, q4, A7 0, A7 1, q9, q11, q13, A16 0, A16 1, A19 0, A19 1, A22 0, A22 1, A25 0, A25 1], rfl, Blk.congr (n := 22) hB26.2 (fun _ _ => rfl) (fun k hk => ?_)⟩
  rcases k with _ | _ | _ | _ | _ | _ | _ | _ | _ | _ | _ | _ | _ | _ | _ | _ | _ | _ | _ | _ | _ | _ | k
  · rfl
  · rfl
  · rfl
  · rfl
  · rfl
  · rfl
  · rfl
  · rfl
  · rfl
  · rfl
  · rfl
  · rfl
  · rfl
  · refine congrArg (ga_rr E 4) (funext fun i => ?_)
    rcases i with _ | _ | _ | _ | i <;> rfl
  · rfl
  · rfl
  · rfl
  · rfl
  · rfl
  · rfl
  · rfl
  · rfl
  · omega

theorem ord_mm (x : Int32) : (if nI 1 < (if x < nI 4 then x else nI 4) then (if x < nI 4 then x else nI 4) else nI 1) = nI (ordN x) := by
  by_cases h1 : x < 1
  · rw [ordN_lo h1]
    have h4 : x < nI 4 := Int32.lt_trans h1 (by decide)
    rw [if_pos h4, if_neg (fun z : nI 1 < x => absurd (Int32.lt_trans h1 z) Int32.lt_irrefl)]
  · by_cases h2 : 4 < x
    · rw [ordN_hi h1 h2]
      rw [if_neg (fun z : x < nI 4 => absurd (Int32.lt_trans h2 z) Int32.lt_irrefl)]
      exact if_pos (by decide)
    · rw [ordN_in h1 h2]
      obtain ⟨j, hj, rfl⟩ := nI_of (x := x) (fun z => h1 (Int32.lt_trans z (by decide)))
      have a : ¬ j < 1 := fun z => h1 ((nI_ltI (b := 1) hj (by omega)).mpr z)
      have b : ¬ 4 < j := fun z => h2 ((nI_ltI (a := 4) (by omega) hj).mpr z)
      have hc : j = 1 ∨ j = 2 ∨ j = 3 ∨ j = 4 := by omega
      rcases hc with rfl | rfl | rfl | rfl <;> decide

def pm_p (k : Nat) : Nat := if k = 0 then 0 else if k = 1 then 64 else k - 1
def pm_r (k : Nat) : Nat := if k = 0 then 0 else if k = 64 then 1 else k + 1
theorem pm_1 : ∀ k, k < 65 → pm_p k < 65 ∧ pm_r (pm_p k) = k := fun k hk => by
  unfold pm_p pm_r
  by_cases h0 : k = 0
  · rw [if_pos h0, if_pos rfl]; omega
  · rw [if_neg h0]
    by_cases h1 : k = 1
    · rw [if_pos h1, if_neg (by omega), if_pos rfl]; omega
    · rw [if_neg h1, if_neg (by omega), if_neg (by omega)]; omega
theorem pm_2 : ∀ k, k < 65 → pm_r k < 65 ∧ pm_p (pm_r k) = k := fun k hk => by
  unfold pm_p pm_r
  by_cases h0 : k = 0
  · rw [if_pos h0, if_pos rfl]; omega
  · rw [if_neg h0]
    by_cases h1 : k = 64
    · rw [if_pos h1, if_neg (by omega), if_pos rfl]; omega
    · rw [if_neg h1, if_neg (by omega), if_neg (by omega)]; omega

set_option maxHeartbeats 4000000 in
set_option maxRecDepth 100000 in
theorem c_X8_init (l : Launch) (E : ga_E) (d : Nat) (h : ga_H) (q : Nat) (hq : h q = none) (x : Int32) : ga_Ok l E (d + 3) mX8_init [.ref q, .int x] (ga_up h q (ga_o 8 [.null, .null, .null, .null, .null, .int 0, .null])) 64 1712 (fun r0 h' => r0 = none ∧ ∃ (Z : Nat → Nat) (c : Nat → va_E), Z 0 = q ∧ Blk h Z c 65 h' ∧ coI E Z c (ordN x) (fun _ => z0) z0 z0 false false false 0 0 z0 z0 z0 (fun _ => 0) (fun _ => z0) 0 0 z0 0 z0 0 z0) := by
  refine ga_Ok.of 0 _ (by decide) rfl (Nat.le_of_ble_eq_true rfl) rfl ?_
  have hB0 : BkL h [q] [ga_o 8 [.null, .null, .null, .null, .null, .int 0, .null]] _ := BkL_1 hq _
  refine gr_aload_n dX8_init_0 rfl ?_
  refine gr_objInit dX8_init_1 ml_X8_1 ⟨by show 1 ≤ d + 3; omega, by show 64 ≤ 64 * (d + 3); omega⟩ (by decide) ?_
  refine gr_aload_n dX8_init_4 rfl ?_
  refine gr_newO dX8_init_5 cls_X1 ⟨cl_X8_7, wn_X1, wi_X1⟩ (fs := [.int 0, .null, .null]) (fun j hj => by rcases j with _ | _ | _ | j <;> first | rfl | omega) ⟨(Nat.le_of_ble_eq_true rfl), (Nat.le_of_ble_eq_true rfl)⟩ (fun q1 hq1 => ?_)
  refine gr_dup dX8_init_8 rfl ?_
  refine gr_iconst (v := nI 1) dX8_init_9 rfl ?_
  refine gr_iconst (v := nI 4) dX8_init_10 rfl ?_
  refine gr_iload_n dX8_init_11 rfl ?_
  refine gr_callS dX8_init_12 (c_min l E (d + 2) _ (nI 4) x) ysJ9_min_7cf53 ⟨ml_X8_11, sm_J9_min_7cf53⟩ rfl rfl (Nat.le_of_ble_eq_true rfl) ⟨(Nat.le_refl _), (Nat.le_refl _)⟩ ⟨(Nat.le_of_ble_eq_true rfl), (Nat.le_of_ble_eq_true rfl)⟩ (fun r0 h1 hp9 => ?_)
  obtain ⟨rfl, rfl⟩ := hp9
  refine gr_callS dX8_init_15 (c_max l E (d + 2) _ (nI 1) _) ysJ9_max_7cf53 ⟨ml_X8_17, sm_J9_max_7cf53⟩ rfl rfl (Nat.le_of_ble_eq_true rfl) ⟨(Nat.le_refl _), (Nat.le_refl _)⟩ ⟨(Nat.le_of_ble_eq_true rfl), (Nat.le_of_ble_eq_true rfl)⟩ (fun r8 h8 hp8 => ?_)
  obtain ⟨rfl, rfl⟩ := hp8
  refine gr_top (congrArg Value.int (ord_mm x)) ?_
  refine gr_callI dX8_init_18 (c_X1_init l E (d + 1) _ q1 hq1 (ordN x)) ysX1_init rfl rfl ⟨ml_X8_20, im_X1_init⟩ rfl rfl (Nat.le_of_ble_eq_true rfl) ⟨(Nat.le_refl _), (Nat.le_refl _)⟩ ⟨(Nat.le_of_ble_eq_true rfl), (Nat.le_of_ble_eq_true rfl)⟩ (fun r2 H2 hp2 => ?_)
  obtain ⟨rfl, A2, hz2, hA2⟩ := hp2
  subst hz2
  have hB2 : BkL h [q, A2 0, A2 1, A2 2, A2 3, A2 4, A2 5, A2 6, A2 7] [ga_o 8 [.null, .null, .null, .null, .null, .int 0, .null], eqC E A2 (ordN x) (fun _ => z0) z0 0, eqC E A2 (ordN x) (fun _ => z0) z0 1, eqC E A2 (ordN x) (fun _ => z0) z0 2, eqC E A2 (ordN x) (fun _ => z0) z0 3, eqC E A2 (ordN x) (fun _ => z0) z0 4, eqC E A2 (ordN x) (fun _ => z0) z0 5, eqC E A2 (ordN x) (fun _ => z0) z0 6, eqC E A2 (ordN x) (fun _ => z0) z0 7] H2 := hB0.app hA2
  refine bl_putF hB2 dX8_init_21 cls_X8 0 (by decide) fl_X8_23 ⟨rfl, rfl, rfl⟩ rfl rfl (Nat.le_of_ble_eq_true rfl) (Nat.le_of_ble_eq_true rfl) rfl rfl (fun H3 (hB3 : BkL h [q, A2 0, A2 1, A2 2, A2 3, A2 4, A2 5, A2 6, A2 7] [ga_o 8 [.ref (A2 0), .null, .null, .null, .null, .int 0, .null], eqC E A2 (ordN x) (fun _ => z0) z0 0, eqC E A2 (ordN x) (fun _ => z0) z0 1, eqC E A2 (ordN x) (fun _ => z0) z0 2, eqC E A2 (ordN x) (fun _ => z0) z0 3, eqC E A2 (ordN x) (fun _ => z0) z0 4, eqC E A2 (ordN x) (fun _ => z0) z0 5, eqC E A2 (ordN x) (fun _ => z0) z0 6, eqC E A2 (ordN x) (fun _ => z0) z0 7] H3) => ?_)
  refine gr_aload_n dX8_init_24 rfl ?_
  refine gr_newO dX8_init_25 cls_X2 ⟨cl_X8_27, wn_X2, wi_X2⟩ (fs := [.null, .null, .null, .null]) (fun j hj => by rcases j with _ | _ | _ | _ | j <;> first | rfl | omega) ⟨(Nat.le_of_ble_eq_true rfl), (Nat.le_of_ble_eq_true rfl)⟩ (fun q4 hq4 => ?_)
  refine gr_dup dX8_init_28 rfl ?_
  refine gr_callIN dX8_init_29 (c_X2_init l E (d + 1) _ q4 hq4) ysX2_init rfl rfl ⟨List.mem_of_getElem? (show ga_Nst[0]? = some _ from rfl), im_X2_init⟩ rfl rfl (Nat.le_of_ble_eq_true rfl) ⟨(Nat.le_refl _), (Nat.le_refl _)⟩ ⟨(Nat.le_of_ble_eq_true rfl), (Nat.le_of_ble_eq_true rfl)⟩ (fun r5 H5 hp5 => ?_)
  obtain ⟨rfl, A5, hz5, hA5⟩ := hp5
  subst hz5
  have hB5 : BkL h [q, A2 0, A2 1, A2 2, A2 3, A2 4, A2 5, A2 6, A2 7, A5 0, A5 1, A5 2, A5 3, A5 4, A5 5, A5 6, A5 7, A5 8, A5 9, A5 10, A5 11, A5 12, A5 13, A5 14, A5 15, A5 16, A5 17, A5 18, A5 19, A5 20, A5 21, A5 22, A5 23] [ga_o 8 [.ref (A2 0), .null, .null, .null, .null, .int 0, .null], eqC E A2 (ordN x) (fun _ => z0) z0 0, eqC E A2 (ordN x) (fun _ => z0) z0 1, eqC E A2 (ordN x) (fun _ => z0) z0 2, eqC E A2 (ordN x) (fun _ => z0) z0 3, eqC E A2 (ordN x) (fun _ => z0) z0 4, eqC E A2 (ordN x) (fun _ => z0) z0 5, eqC E A2 (ordN x) (fun _ => z0) z0 6, eqC E A2 (ordN x) (fun _ => z0) z0 7, lsC E A5 (fun _ => z0) (fun _ => false) (fun _ => some 0) z0 0, lsC E A5 (fun _ => z0) (fun _ => false) (fun _ => some 0) z0 1, lsC E A5 (fun _ => z0) (fun _ => false) (fun _ => some 0) z0 2, lsC E A5 (fun _ => z0) (fun _ => false) (fun _ => some 0) z0 3, lsC E A5 (fun _ => z0) (fun _ => false) (fun _ => some 0) z0 4, lsC E A5 (fun _ => z0) (fun _ => false) (fun _ => some 0) z0 5, lsC E A5 (fun _ => z0) (fun _ => false) (fun _ => some 0) z0 6, lsC E A5 (fun _ => z0) (fun _ => false) (fun _ => some 0) z0 7, lsC E A5 (fun _ => z0) (fun _ => false) (fun _ => some 0) z0 8, lsC E A5 (fun _ => z0) (fun _ => false) (fun _ => some 0) z0 9, lsC E A5 (fun _ => z0) (fun _ => false) (fun _ => some 0) z0 10, lsC E A5 (fun _ => z0) (fun _ => false) (fun _ => some 0) z0 11, lsC E A5 (fun _ => z0) (fun _ => false) (fun _ => some 0) z0 12, lsC E A5 (fun _ => z0) (fun _ => false) (fun _ => some 0) z0 13, lsC E A5 (fun _ => z0) (fun _ => false) (fun _ => some 0) z0 14, lsC E A5 (fun _ => z0) (fun _ => false) (fun _ => some 0) z0 15, lsC E A5 (fun _ => z0) (fun _ => false) (fun _ => some 0) z0 16, lsC E A5 (fun _ => z0) (fun _ => false) (fun _ => some 0) z0 17, lsC E A5 (fun _ => z0) (fun _ => false) (fun _ => some 0) z0 18, lsC E A5 (fun _ => z0) (fun _ => false) (fun _ => some 0) z0 19, lsC E A5 (fun _ => z0) (fun _ => false) (fun _ => some 0) z0 20, lsC E A5 (fun _ => z0) (fun _ => false) (fun _ => some 0) z0 21, lsC E A5 (fun _ => z0) (fun _ => false) (fun _ => some 0) z0 22, lsC E A5 (fun _ => z0) (fun _ => false) (fun _ => some 0) z0 23] H5 := hB3.app hA5
  refine bl_putF hB5 dX8_init_32 cls_X8 1 (by decide) fl_X8_30 ⟨rfl, rfl, rfl⟩ rfl rfl (Nat.le_of_ble_eq_true rfl) (Nat.le_of_ble_eq_true rfl) rfl rfl (fun H6 (hB6 : BkL h [q, A2 0, A2 1, A2 2, A2 3, A2 4, A2 5, A2 6, A2 7, A5 0, A5 1, A5 2, A5 3, A5 4, A5 5, A5 6, A5 7, A5 8, A5 9, A5 10, A5 11, A5 12, A5 13, A5 14, A5 15, A5 16, A5 17, A5 18, A5 19, A5 20, A5 21, A5 22, A5 23] [ga_o 8 [.ref (A2 0), .ref (A5 0), .null, .null, .null, .int 0, .null], eqC E A2 (ordN x) (fun _ => z0) z0 0, eqC E A2 (ordN x) (fun _ => z0) z0 1, eqC E A2 (ordN x) (fun _ => z0) z0 2, eqC E A2 (ordN x) (fun _ => z0) z0 3, eqC E A2 (ordN x) (fun _ => z0) z0 4, eqC E A2 (ordN x) (fun _ => z0) z0 5, eqC E A2 (ordN x) (fun _ => z0) z0 6, eqC E A2 (ordN x) (fun _ => z0) z0 7, lsC E A5 (fun _ => z0) (fun _ => false) (fun _ => some 0) z0 0, lsC E A5 (fun _ => z0) (fun _ => false) (fun _ => some 0) z0 1, lsC E A5 (fun _ => z0) (fun _ => false) (fun _ => some 0) z0 2, lsC E A5 (fun _ => z0) (fun _ => false) (fun _ => some 0) z0 3, lsC E A5 (fun _ => z0) (fun _ => false) (fun _ => some 0) z0 4, lsC E A5 (fun _ => z0) (fun _ => false) (fun _ => some 0) z0 5, lsC E A5 (fun _ => z0) (fun _ => false) (fun _ => some 0) z0 6, lsC E A5 (fun _ => z0) (fun _ => false) (fun _ => some 0) z0 7, lsC E A5 (fun _ => z0) (fun _ => false) (fun _ => some 0) z0 8, lsC E A5 (fun _ => z0) (fun _ => false) (fun _ => some 0) z0 9, lsC E A5 (fun _ => z0) (fun _ => false) (fun _ => some 0) z0 10, lsC E A5 (fun _ => z0) (fun _ => false) (fun _ => some 0) z0 11, lsC E A5 (fun _ => z0) (fun _ => false) (fun _ => some 0) z0 12, lsC E A5 (fun _ => z0) (fun _ => false) (fun _ => some 0) z0 13, lsC E A5 (fun _ => z0) (fun _ => false) (fun _ => some 0) z0 14, lsC E A5 (fun _ => z0) (fun _ => false) (fun _ => some 0) z0 15, lsC E A5 (fun _ => z0) (fun _ => false) (fun _ => some 0) z0 16, lsC E A5 (fun _ => z0) (fun _ => false) (fun _ => some 0) z0 17, lsC E A5 (fun _ => z0) (fun _ => false) (fun _ => some 0) z0 18, lsC E A5 (fun _ => z0) (fun _ => false) (fun _ => some 0) z0 19, lsC E A5 (fun _ => z0) (fun _ => false) (fun _ => some 0) z0 20, lsC E A5 (fun _ => z0) (fun _ => false) (fun _ => some 0) z0 21, lsC E A5 (fun _ => z0) (fun _ => false) (fun _ => some 0) z0 22, lsC E A5 (fun _ => z0) (fun _ => false) (fun _ => some 0) z0 23] H6) => ?_)
  refine gr_aload_n dX8_init_35 rfl ?_
  refine gr_newO dX8_init_36 cls_X0 ⟨cl_X8_34, wn_X0, wi_X0⟩ (fs := [.null, .null, .int 0, .null, .int 0, .null, .int 0, .null, .null]) (fun j hj => by rcases j with _ | _ | _ | _ | _ | _ | _ | _ | _ | j <;> first | rfl | omega) ⟨(Nat.le_of_ble_eq_true rfl), (Nat.le_of_ble_eq_true rfl)⟩ (fun q7 hq7 => ?_)
  refine gr_dup dX8_init_39 rfl ?_
  refine gr_callI dX8_init_40 (c_X0_init l E d _ q7 hq7) ysX0_init rfl rfl ⟨ml_X8_36, im_X0_init⟩ rfl rfl (Nat.le_of_ble_eq_true rfl) ⟨(Nat.le_refl _), (Nat.le_refl _)⟩ ⟨(Nat.le_of_ble_eq_true rfl), (Nat.le_of_ble_eq_true rfl)⟩ (fun r8 H8 hp8 => ?_)
  obtain ⟨rfl, A8, hz8, hA8⟩ := hp8
  subst hz8
  have hB8 : BkL h [q, A2 0, A2 1, A2 2, A2 3, A2 4, A2 5, A2 6, A2 7, A5 0, A5 1, A5 2, A5 3, A5 4, A5 5, A5 6, A5 7, A5 8, A5 9, A5 10, A5 11, A5 12, A5 13, A5 14, A5 15, A5 16, A5 17, A5 18, A5 19, A5 20, A5 21, A5 22, A5 23, A8 0, A8 1, A8 2, A8 3, A8 4, A8 5, A8 6, A8 7, A8 8, A8 9, A8 10, A8 11, A8 12, A8 13, A8 14, A8 15, A8 16, A8 17, A8 18, A8 19, A8 20, A8 21] [ga_o 8 [.ref (A2 0), .ref (A5 0), .null, .null, .null, .int 0, .null], eqC E A2 (ordN x) (fun _ => z0) z0 0, eqC E A2 (ordN x) (fun _ => z0) z0 1, eqC E A2 (ordN x) (fun _ => z0) z0 2, eqC E A2 (ordN x) (fun _ => z0) z0 3, eqC E A2 (ordN x) (fun _ => z0) z0 4, eqC E A2 (ordN x) (fun _ => z0) z0 5, eqC E A2 (ordN x) (fun _ => z0) z0 6, eqC E A2 (ordN x) (fun _ => z0) z0 7, lsC E A5 (fun _ => z0) (fun _ => false) (fun _ => some 0) z0 0, lsC E A5 (fun _ => z0) (fun _ => false) (fun _ => some 0) z0 1, lsC E A5 (fun _ => z0) (fun _ => false) (fun _ => some 0) z0 2, lsC E A5 (fun _ => z0) (fun _ => false) (fun _ => some 0) z0 3, lsC E A5 (fun _ => z0) (fun _ => false) (fun _ => some 0) z0 4, lsC E A5 (fun _ => z0) (fun _ => false) (fun _ => some 0) z0 5, lsC E A5 (fun _ => z0) (fun _ => false) (fun _ => some 0) z0 6, lsC E A5 (fun _ => z0) (fun _ => false) (fun _ => some 0) z0 7, lsC E A5 (fun _ => z0) (fun _ => false) (fun _ => some 0) z0 8, lsC E A5 (fun _ => z0) (fun _ => false) (fun _ => some 0) z0 9, lsC E A5 (fun _ => z0) (fun _ => false) (fun _ => some 0) z0 10, lsC E A5 (fun _ => z0) (fun _ => false) (fun _ => some 0) z0 11, lsC E A5 (fun _ => z0) (fun _ => false) (fun _ => some 0) z0 12, lsC E A5 (fun _ => z0) (fun _ => false) (fun _ => some 0) z0 13, lsC E A5 (fun _ => z0) (fun _ => false) (fun _ => some 0) z0 14, lsC E A5 (fun _ => z0) (fun _ => false) (fun _ => some 0) z0 15, lsC E A5 (fun _ => z0) (fun _ => false) (fun _ => some 0) z0 16, lsC E A5 (fun _ => z0) (fun _ => false) (fun _ => some 0) z0 17, lsC E A5 (fun _ => z0) (fun _ => false) (fun _ => some 0) z0 18, lsC E A5 (fun _ => z0) (fun _ => false) (fun _ => some 0) z0 19, lsC E A5 (fun _ => z0) (fun _ => false) (fun _ => some 0) z0 20, lsC E A5 (fun _ => z0) (fun _ => false) (fun _ => some 0) z0 21, lsC E A5 (fun _ => z0) (fun _ => false) (fun _ => some 0) z0 22, lsC E A5 (fun _ => z0) (fun _ => false) (fun _ => some 0) z0 23, anC E A8 0, anC E A8 1, anC E A8 2, anC E A8 3, anC E A8 4, anC E A8 5, anC E A8 6, anC E A8 7, anC E A8 8, anC E A8 9, anC E A8 10, anC E A8 11, anC E A8 12, anC E A8 13, anC E A8 14, anC E A8 15, anC E A8 16, anC E A8 17, anC E A8 18, anC E A8 19, anC E A8 20, anC E A8 21] H8 := hB6.app hA8
  refine bl_putF hB8 dX8_init_43 cls_X8 2 (by decide) fl_X8_37 ⟨rfl, rfl, rfl⟩ rfl rfl (Nat.le_of_ble_eq_true rfl) (Nat.le_of_ble_eq_true rfl) rfl rfl (fun H9 (hB9 : BkL h [q, A2 0, A2 1, A2 2, A2 3, A2 4, A2 5, A2 6, A2 7, A5 0, A5 1, A5 2, A5 3, A5 4, A5 5, A5 6, A5 7, A5 8, A5 9, A5 10, A5 11, A5 12, A5 13, A5 14, A5 15, A5 16, A5 17, A5 18, A5 19, A5 20, A5 21, A5 22, A5 23, A8 0, A8 1, A8 2, A8 3, A8 4, A8 5, A8 6, A8 7, A8 8, A8 9, A8 10, A8 11, A8 12, A8 13, A8 14, A8 15, A8 16, A8 17, A8 18, A8 19, A8 20, A8 21] [ga_o 8 [.ref (A2 0), .ref (A5 0), .ref (A8 0), .null, .null, .int 0, .null], eqC E A2 (ordN x) (fun _ => z0) z0 0, eqC E A2 (ordN x) (fun _ => z0) z0 1, eqC E A2 (ordN x) (fun _ => z0) z0 2, eqC E A2 (ordN x) (fun _ => z0) z0 3, eqC E A2 (ordN x) (fun _ => z0) z0 4, eqC E A2 (ordN x) (fun _ => z0) z0 5, eqC E A2 (ordN x) (fun _ => z0) z0 6, eqC E A2 (ordN x) (fun _ => z0) z0 7, lsC E A5 (fun _ => z0) (fun _ => false) (fun _ => some 0) z0 0, lsC E A5 (fun _ => z0) (fun _ => false) (fun _ => some 0) z0 1, lsC E A5 (fun _ => z0) (fun _ => false) (fun _ => some 0) z0 2, lsC E A5 (fun _ => z0) (fun _ => false) (fun _ => some 0) z0 3, lsC E A5 (fun _ => z0) (fun _ => false) (fun _ => some 0) z0 4, lsC E A5 (fun _ => z0) (fun _ => false) (fun _ => some 0) z0 5, lsC E A5 (fun _ => z0) (fun _ => false) (fun _ => some 0) z0 6, lsC E A5 (fun _ => z0) (fun _ => false) (fun _ => some 0) z0 7, lsC E A5 (fun _ => z0) (fun _ => false) (fun _ => some 0) z0 8, lsC E A5 (fun _ => z0) (fun _ => false) (fun _ => some 0) z0 9, lsC E A5 (fun _ => z0) (fun _ => false) (fun _ => some 0) z0 10, lsC E A5 (fun _ => z0) (fun _ => false) (fun _ => some 0) z0 11, lsC E A5 (fun _ => z0) (fun _ => false) (fun _ => some 0) z0 12, lsC E A5 (fun _ => z0) (fun _ => false) (fun _ => some 0) z0 13, lsC E A5 (fun _ => z0) (fun _ => false) (fun _ => some 0) z0 14, lsC E A5 (fun _ => z0) (fun _ => false) (fun _ => some 0) z0 15, lsC E A5 (fun _ => z0) (fun _ => false) (fun _ => some 0) z0 16, lsC E A5 (fun _ => z0) (fun _ => false) (fun _ => some 0) z0 17, lsC E A5 (fun _ => z0) (fun _ => false) (fun _ => some 0) z0 18, lsC E A5 (fun _ => z0) (fun _ => false) (fun _ => some 0) z0 19, lsC E A5 (fun _ => z0) (fun _ => false) (fun _ => some 0) z0 20, lsC E A5 (fun _ => z0) (fun _ => false) (fun _ => some 0) z0 21, lsC E A5 (fun _ => z0) (fun _ => false) (fun _ => some 0) z0 22, lsC E A5 (fun _ => z0) (fun _ => false) (fun _ => some 0) z0 23, anC E A8 0, anC E A8 1, anC E A8 2, anC E A8 3, anC E A8 4, anC E A8 5, anC E A8 6, anC E A8 7, anC E A8 8, anC E A8 9, anC E A8 10, anC E A8 11, anC E A8 12, anC E A8 13, anC E A8 14, anC E A8 15, anC E A8 16, anC E A8 17, anC E A8 18, anC E A8 19, anC E A8 20, anC E A8 21] H9) => ?_)
  refine gr_aload_n dX8_init_46 rfl ?_
  refine gr_newO dX8_init_47 cls_X7 ⟨cl_X8_41, wn_X7, wi_X7⟩ (fs := [.null, .int 0, .int 0]) (fun j hj => by rcases j with _ | _ | _ | j <;> first | rfl | omega) ⟨(Nat.le_of_ble_eq_true rfl), (Nat.le_of_ble_eq_true rfl)⟩ (fun q10 hq10 => ?_)
  refine gr_dup dX8_init_50 rfl ?_
  refine gr_callIN dX8_init_51 (c_X7_init l E (d + 1) _ q10 hq10) ysX7_init rfl rfl ⟨List.mem_of_getElem? (show ga_Nst[3]? = some _ from rfl), im_X7_init⟩ rfl rfl (Nat.le_of_ble_eq_true rfl) ⟨(Nat.le_refl _), (Nat.le_refl _)⟩ ⟨(Nat.le_of_ble_eq_true rfl), (Nat.le_of_ble_eq_true rfl)⟩ (fun r11 H11 hp11 => ?_)
  obtain ⟨rfl, A11, hz11, hA11⟩ := hp11
  subst hz11
  have hB11 : BkL h [q, A2 0, A2 1, A2 2, A2 3, A2 4, A2 5, A2 6, A2 7, A5 0, A5 1, A5 2, A5 3, A5 4, A5 5, A5 6, A5 7, A5 8, A5 9, A5 10, A5 11, A5 12, A5 13, A5 14, A5 15, A5 16, A5 17, A5 18, A5 19, A5 20, A5 21, A5 22, A5 23, A8 0, A8 1, A8 2, A8 3, A8 4, A8 5, A8 6, A8 7, A8 8, A8 9, A8 10, A8 11, A8 12, A8 13, A8 14, A8 15, A8 16, A8 17, A8 18, A8 19, A8 20, A8 21, A11 0, A11 1] [ga_o 8 [.ref (A2 0), .ref (A5 0), .ref (A8 0), .null, .null, .int 0, .null], eqC E A2 (ordN x) (fun _ => z0) z0 0, eqC E A2 (ordN x) (fun _ => z0) z0 1, eqC E A2 (ordN x) (fun _ => z0) z0 2, eqC E A2 (ordN x) (fun _ => z0) z0 3, eqC E A2 (ordN x) (fun _ => z0) z0 4, eqC E A2 (ordN x) (fun _ => z0) z0 5, eqC E A2 (ordN x) (fun _ => z0) z0 6, eqC E A2 (ordN x) (fun _ => z0) z0 7, lsC E A5 (fun _ => z0) (fun _ => false) (fun _ => some 0) z0 0, lsC E A5 (fun _ => z0) (fun _ => false) (fun _ => some 0) z0 1, lsC E A5 (fun _ => z0) (fun _ => false) (fun _ => some 0) z0 2, lsC E A5 (fun _ => z0) (fun _ => false) (fun _ => some 0) z0 3, lsC E A5 (fun _ => z0) (fun _ => false) (fun _ => some 0) z0 4, lsC E A5 (fun _ => z0) (fun _ => false) (fun _ => some 0) z0 5, lsC E A5 (fun _ => z0) (fun _ => false) (fun _ => some 0) z0 6, lsC E A5 (fun _ => z0) (fun _ => false) (fun _ => some 0) z0 7, lsC E A5 (fun _ => z0) (fun _ => false) (fun _ => some 0) z0 8, lsC E A5 (fun _ => z0) (fun _ => false) (fun _ => some 0) z0 9, lsC E A5 (fun _ => z0) (fun _ => false) (fun _ => some 0) z0 10, lsC E A5 (fun _ => z0) (fun _ => false) (fun _ => some 0) z0 11, lsC E A5 (fun _ => z0) (fun _ => false) (fun _ => some 0) z0 12, lsC E A5 (fun _ => z0) (fun _ => false) (fun _ => some 0) z0 13, lsC E A5 (fun _ => z0) (fun _ => false) (fun _ => some 0) z0 14, lsC E A5 (fun _ => z0) (fun _ => false) (fun _ => some 0) z0 15, lsC E A5 (fun _ => z0) (fun _ => false) (fun _ => some 0) z0 16, lsC E A5 (fun _ => z0) (fun _ => false) (fun _ => some 0) z0 17, lsC E A5 (fun _ => z0) (fun _ => false) (fun _ => some 0) z0 18, lsC E A5 (fun _ => z0) (fun _ => false) (fun _ => some 0) z0 19, lsC E A5 (fun _ => z0) (fun _ => false) (fun _ => some 0) z0 20, lsC E A5 (fun _ => z0) (fun _ => false) (fun _ => some 0) z0 21, lsC E A5 (fun _ => z0) (fun _ => false) (fun _ => some 0) z0 22, lsC E A5 (fun _ => z0) (fun _ => false) (fun _ => some 0) z0 23, anC E A8 0, anC E A8 1, anC E A8 2, anC E A8 3, anC E A8 4, anC E A8 5, anC E A8 6, anC E A8 7, anC E A8 8, anC E A8 9, anC E A8 10, anC E A8 11, anC E A8 12, anC E A8 13, anC E A8 14, anC E A8 15, anC E A8 16, anC E A8 17, anC E A8 18, anC E A8 19, anC E A8 20, anC E A8 21, vlK E A11 0, vlK E A11 1] H11 := hB9.app hA11
  refine bl_putF hB11 dX8_init_54 cls_X8 3 (by decide) fl_X8_44 ⟨rfl, rfl, rfl⟩ rfl rfl (Nat.le_of_ble_eq_true rfl) (Nat.le_of_ble_eq_true rfl) rfl rfl (fun H12 (hB12 : BkL h [q, A2 0, A2 1, A2 2, A2 3, A2 4, A2 5, A2 6, A2 7, A5 0, A5 1, A5 2, A5 3, A5 4, A5 5, A5 6, A5 7, A5 8, A5 9, A5 10, A5 11, A5 12, A5 13, A5 14, A5 15, A5 16, A5 17, A5 18, A5 19, A5 20, A5 21, A5 22, A5 23, A8 0, A8 1, A8 2, A8 3, A8 4, A8 5, A8 6, A8 7, A8 8, A8 9, A8 10, A8 11, A8 12, A8 13, A8 14, A8 15, A8 16, A8 17, A8 18, A8 19, A8 20, A8 21, A11 0, A11 1] [ga_o 8 [.ref (A2 0), .ref (A5 0), .ref (A8 0), .ref (A11 0), .null, .int 0, .null], eqC E A2 (ordN x) (fun _ => z0) z0 0, eqC E A2 (ordN x) (fun _ => z0) z0 1, eqC E A2 (ordN x) (fun _ => z0) z0 2, eqC E A2 (ordN x) (fun _ => z0) z0 3, eqC E A2 (ordN x) (fun _ => z0) z0 4, eqC E A2 (ordN x) (fun _ => z0) z0 5, eqC E A2 (ordN x) (fun _ => z0) z0 6, eqC E A2 (ordN x) (fun _ => z0) z0 7, lsC E A5 (fun _ => z0) (fun _ => false) (fun _ => some 0) z0 0, lsC E A5 (fun _ => z0) (fun _ => false) (fun _ => some 0) z0 1, lsC E A5 (fun _ => z0) (fun _ => false) (fun _ => some 0) z0 2, lsC E A5 (fun _ => z0) (fun _ => false) (fun _ => some 0) z0 3, lsC E A5 (fun _ => z0) (fun _ => false) (fun _ => some 0) z0 4, lsC E A5 (fun _ => z0) (fun _ => false) (fun _ => some 0) z0 5, lsC E A5 (fun _ => z0) (fun _ => false) (fun _ => some 0) z0 6, lsC E A5 (fun _ => z0) (fun _ => false) (fun _ => some 0) z0 7, lsC E A5 (fun _ => z0) (fun _ => false) (fun _ => some 0) z0 8, lsC E A5 (fun _ => z0) (fun _ => false) (fun _ => some 0) z0 9, lsC E A5 (fun _ => z0) (fun _ => false) (fun _ => some 0) z0 10, lsC E A5 (fun _ => z0) (fun _ => false) (fun _ => some 0) z0 11, lsC E A5 (fun _ => z0) (fun _ => false) (fun _ => some 0) z0 12, lsC E A5 (fun _ => z0) (fun _ => false) (fun _ => some 0) z0 13, lsC E A5 (fun _ => z0) (fun _ => false) (fun _ => some 0) z0 14, lsC E A5 (fun _ => z0) (fun _ => false) (fun _ => some 0) z0 15, lsC E A5 (fun _ => z0) (fun _ => false) (fun _ => some 0) z0 16, lsC E A5 (fun _ => z0) (fun _ => false) (fun _ => some 0) z0 17, lsC E A5 (fun _ => z0) (fun _ => false) (fun _ => some 0) z0 18, lsC E A5 (fun _ => z0) (fun _ => false) (fun _ => some 0) z0 19, lsC E A5 (fun _ => z0) (fun _ => false) (fun _ => some 0) z0 20, lsC E A5 (fun _ => z0) (fun _ => false) (fun _ => some 0) z0 21, lsC E A5 (fun _ => z0) (fun _ => false) (fun _ => some 0) z0 22, lsC E A5 (fun _ => z0) (fun _ => false) (fun _ => some 0) z0 23, anC E A8 0, anC E A8 1, anC E A8 2, anC E A8 3, anC E A8 4, anC E A8 5, anC E A8 6, anC E A8 7, anC E A8 8, anC E A8 9, anC E A8 10, anC E A8 11, anC E A8 12, anC E A8 13, anC E A8 14, anC E A8 15, anC E A8 16, anC E A8 17, anC E A8 18, anC E A8 19, anC E A8 20, anC E A8 21, vlK E A11 0, vlK E A11 1] H12) => ?_)
  refine gr_aload_n dX8_init_57 rfl ?_
  refine gr_newO dX8_init_58 cls_X5 ⟨cl_X8_48, wn_X5, wi_X5⟩ (fs := [.null, .null, .null, .null, .null, .null, .int 0]) (fun j hj => by rcases j with _ | _ | _ | _ | _ | _ | _ | j <;> first | rfl | omega) ⟨(Nat.le_of_ble_eq_true rfl), (Nat.le_of_ble_eq_true rfl)⟩ (fun q13 hq13 => ?_)
  refine gr_dup dX8_init_61 rfl ?_
  refine gr_callIN dX8_init_62 (c_X5_init l E (d + 1) _ q13 hq13) ysX5_init rfl rfl ⟨List.mem_of_getElem? (show ga_Nst[4]? = some _ from rfl), im_X5_init⟩ rfl rfl (Nat.le_of_ble_eq_true rfl) ⟨(Nat.le_refl _), (Nat.le_refl _)⟩ ⟨(Nat.le_of_ble_eq_true rfl), (Nat.le_of_ble_eq_true rfl)⟩ (fun r14 H14 hp14 => ?_)
  obtain ⟨rfl, A14, hz14, hA14⟩ := hp14
  subst hz14
  have hB14 : BkL h [q, A2 0, A2 1, A2 2, A2 3, A2 4, A2 5, A2 6, A2 7, A5 0, A5 1, A5 2, A5 3, A5 4, A5 5, A5 6, A5 7, A5 8, A5 9, A5 10, A5 11, A5 12, A5 13, A5 14, A5 15, A5 16, A5 17, A5 18, A5 19, A5 20, A5 21, A5 22, A5 23, A8 0, A8 1, A8 2, A8 3, A8 4, A8 5, A8 6, A8 7, A8 8, A8 9, A8 10, A8 11, A8 12, A8 13, A8 14, A8 15, A8 16, A8 17, A8 18, A8 19, A8 20, A8 21, A11 0, A11 1, A14 0, A14 1, A14 2, A14 3, A14 4, A14 5, A14 6] [ga_o 8 [.ref (A2 0), .ref (A5 0), .ref (A8 0), .ref (A11 0), .null, .int 0, .null], eqC E A2 (ordN x) (fun _ => z0) z0 0, eqC E A2 (ordN x) (fun _ => z0) z0 1, eqC E A2 (ordN x) (fun _ => z0) z0 2, eqC E A2 (ordN x) (fun _ => z0) z0 3, eqC E A2 (ordN x) (fun _ => z0) z0 4, eqC E A2 (ordN x) (fun _ => z0) z0 5, eqC E A2 (ordN x) (fun _ => z0) z0 6, eqC E A2 (ordN x) (fun _ => z0) z0 7, lsC E A5 (fun _ => z0) (fun _ => false) (fun _ => some 0) z0 0, lsC E A5 (fun _ => z0) (fun _ => false) (fun _ => some 0) z0 1, lsC E A5 (fun _ => z0) (fun _ => false) (fun _ => some 0) z0 2, lsC E A5 (fun _ => z0) (fun _ => false) (fun _ => some 0) z0 3, lsC E A5 (fun _ => z0) (fun _ => false) (fun _ => some 0) z0 4, lsC E A5 (fun _ => z0) (fun _ => false) (fun _ => some 0) z0 5, lsC E A5 (fun _ => z0) (fun _ => false) (fun _ => some 0) z0 6, lsC E A5 (fun _ => z0) (fun _ => false) (fun _ => some 0) z0 7, lsC E A5 (fun _ => z0) (fun _ => false) (fun _ => some 0) z0 8, lsC E A5 (fun _ => z0) (fun _ => false) (fun _ => some 0) z0 9, lsC E A5 (fun _ => z0) (fun _ => false) (fun _ => some 0) z0 10, lsC E A5 (fun _ => z0) (fun _ => false) (fun _ => some 0) z0 11, lsC E A5 (fun _ => z0) (fun _ => false) (fun _ => some 0) z0 12, lsC E A5 (fun _ => z0) (fun _ => false) (fun _ => some 0) z0 13, lsC E A5 (fun _ => z0) (fun _ => false) (fun _ => some 0) z0 14, lsC E A5 (fun _ => z0) (fun _ => false) (fun _ => some 0) z0 15, lsC E A5 (fun _ => z0) (fun _ => false) (fun _ => some 0) z0 16, lsC E A5 (fun _ => z0) (fun _ => false) (fun _ => some 0) z0 17, lsC E A5 (fun _ => z0) (fun _ => false) (fun _ => some 0) z0 18, lsC E A5 (fun _ => z0) (fun _ => false) (fun _ => some 0) z0 19, lsC E A5 (fun _ => z0) (fun _ => false) (fun _ => some 0) z0 20, lsC E A5 (fun _ => z0) (fun _ => false) (fun _ => some 0) z0 21, lsC E A5 (fun _ => z0) (fun _ => false) (fun _ => some 0) z0 22, lsC E A5 (fun _ => z0) (fun _ => false) (fun _ => some 0) z0 23, anC E A8 0, anC E A8 1, anC E A8 2, anC E A8 3, anC E A8 4, anC E A8 5, anC E A8 6, anC E A8 7, anC E A8 8, anC E A8 9, anC E A8 10, anC E A8 11, anC E A8 12, anC E A8 13, anC E A8 14, anC E A8 15, anC E A8 16, anC E A8 17, anC E A8 18, anC E A8 19, anC E A8 20, anC E A8 21, vlK E A11 0, vlK E A11 1, roC E A14 0 z0 z0 z0 z0 z0 z0 0, roC E A14 0 z0 z0 z0 z0 z0 z0 1, roC E A14 0 z0 z0 z0 z0 z0 z0 2, roC E A14 0 z0 z0 z0 z0 z0 z0 3, roC E A14 0 z0 z0 z0 z0 z0 z0 4, roC E A14 0 z0 z0 z0 z0 z0 z0 5, roC E A14 0 z0 z0 z0 z0 z0 z0 6] H14 := hB12.app hA14
  refine bl_putF hB14 dX8_init_65 cls_X8 4 (by decide) fl_X8_51 ⟨rfl, rfl, rfl⟩ rfl rfl (Nat.le_of_ble_eq_true rfl) (Nat.le_of_ble_eq_true rfl) rfl rfl (fun H15 (hB15 : BkL h [q, A2 0, A2 1, A2 2, A2 3, A2 4, A2 5, A2 6, A2 7, A5 0, A5 1, A5 2, A5 3, A5 4, A5 5, A5 6, A5 7, A5 8, A5 9, A5 10, A5 11, A5 12, A5 13, A5 14, A5 15, A5 16, A5 17, A5 18, A5 19, A5 20, A5 21, A5 22, A5 23, A8 0, A8 1, A8 2, A8 3, A8 4, A8 5, A8 6, A8 7, A8 8, A8 9, A8 10, A8 11, A8 12, A8 13, A8 14, A8 15, A8 16, A8 17, A8 18, A8 19, A8 20, A8 21, A11 0, A11 1, A14 0, A14 1, A14 2, A14 3, A14 4, A14 5, A14 6] [ga_o 8 [.ref (A2 0), .ref (A5 0), .ref (A8 0), .ref (A11 0), .ref (A14 0), .int 0, .null], eqC E A2 (ordN x) (fun _ => z0) z0 0, eqC E A2 (ordN x) (fun _ => z0) z0 1, eqC E A2 (ordN x) (fun _ => z0) z0 2, eqC E A2 (ordN x) (fun _ => z0) z0 3, eqC E A2 (ordN x) (fun _ => z0) z0 4, eqC E A2 (ordN x) (fun _ => z0) z0 5, eqC E A2 (ordN x) (fun _ => z0) z0 6, eqC E A2 (ordN x) (fun _ => z0) z0 7, lsC E A5 (fun _ => z0) (fun _ => false) (fun _ => some 0) z0 0, lsC E A5 (fun _ => z0) (fun _ => false) (fun _ => some 0) z0 1, lsC E A5 (fun _ => z0) (fun _ => false) (fun _ => some 0) z0 2, lsC E A5 (fun _ => z0) (fun _ => false) (fun _ => some 0) z0 3, lsC E A5 (fun _ => z0) (fun _ => false) (fun _ => some 0) z0 4, lsC E A5 (fun _ => z0) (fun _ => false) (fun _ => some 0) z0 5, lsC E A5 (fun _ => z0) (fun _ => false) (fun _ => some 0) z0 6, lsC E A5 (fun _ => z0) (fun _ => false) (fun _ => some 0) z0 7, lsC E A5 (fun _ => z0) (fun _ => false) (fun _ => some 0) z0 8, lsC E A5 (fun _ => z0) (fun _ => false) (fun _ => some 0) z0 9, lsC E A5 (fun _ => z0) (fun _ => false) (fun _ => some 0) z0 10, lsC E A5 (fun _ => z0) (fun _ => false) (fun _ => some 0) z0 11, lsC E A5 (fun _ => z0) (fun _ => false) (fun _ => some 0) z0 12, lsC E A5 (fun _ => z0) (fun _ => false) (fun _ => some 0) z0 13, lsC E A5 (fun _ => z0) (fun _ => false) (fun _ => some 0) z0 14, lsC E A5 (fun _ => z0) (fun _ => false) (fun _ => some 0) z0 15, lsC E A5 (fun _ => z0) (fun _ => false) (fun _ => some 0) z0 16, lsC E A5 (fun _ => z0) (fun _ => false) (fun _ => some 0) z0 17, lsC E A5 (fun _ => z0) (fun _ => false) (fun _ => some 0) z0 18, lsC E A5 (fun _ => z0) (fun _ => false) (fun _ => some 0) z0 19, lsC E A5 (fun _ => z0) (fun _ => false) (fun _ => some 0) z0 20, lsC E A5 (fun _ => z0) (fun _ => false) (fun _ => some 0) z0 21, lsC E A5 (fun _ => z0) (fun _ => false) (fun _ => some 0) z0 22, lsC E A5 (fun _ => z0) (fun _ => false) (fun _ => some 0) z0 23, anC E A8 0, anC E A8 1, anC E A8 2, anC E A8 3, anC E A8 4, anC E A8 5, anC E A8 6, anC E A8 7, anC E A8 8, anC E A8 9, anC E A8 10, anC E A8 11, anC E A8 12, anC E A8 13, anC E A8 14, anC E A8 15, anC E A8 16, anC E A8 17, anC E A8 18, anC E A8 19, anC E A8 20, anC E A8 21, vlK E A11 0, vlK E A11 1, roC E A14 0 z0 z0 z0 z0 z0 z0 0, roC E A14 0 z0 z0 z0 z0 z0 z0 1, roC E A14 0 z0 z0 z0 z0 z0 z0 2, roC E A14 0 z0 z0 z0 z0 z0 z0 3, roC E A14 0 z0 z0 z0 z0 z0 z0 4, roC E A14 0 z0 z0 z0 z0 z0 z0 5, roC E A14 0 z0 z0 z0 z0 z0 z0 6] H15) => ?_)
  refine gr_aload_n dX8_init_68 rfl ?_
  refine gr_bipush (v := nI 13) dX8_init_69 (by decide) ?_
  refine bl_newI hB15 dX8_init_71 (by decide) ⟨(Nat.le_of_ble_eq_true rfl), (Nat.le_of_ble_eq_true rfl)⟩ (fun q16 H16 (hB16 : BkL h [q, A2 0, A2 1, A2 2, A2 3, A2 4, A2 5, A2 6, A2 7, A5 0, A5 1, A5 2, A5 3, A5 4, A5 5, A5 6, A5 7, A5 8, A5 9, A5 10, A5 11, A5 12, A5 13, A5 14, A5 15, A5 16, A5 17, A5 18, A5 19, A5 20, A5 21, A5 22, A5 23, A8 0, A8 1, A8 2, A8 3, A8 4, A8 5, A8 6, A8 7, A8 8, A8 9, A8 10, A8 11, A8 12, A8 13, A8 14, A8 15, A8 16, A8 17, A8 18, A8 19, A8 20, A8 21, A11 0, A11 1, A14 0, A14 1, A14 2, A14 3, A14 4, A14 5, A14 6, q16] [ga_o 8 [.ref (A2 0), .ref (A5 0), .ref (A8 0), .ref (A11 0), .ref (A14 0), .int 0, .null], eqC E A2 (ordN x) (fun _ => z0) z0 0, eqC E A2 (ordN x) (fun _ => z0) z0 1, eqC E A2 (ordN x) (fun _ => z0) z0 2, eqC E A2 (ordN x) (fun _ => z0) z0 3, eqC E A2 (ordN x) (fun _ => z0) z0 4, eqC E A2 (ordN x) (fun _ => z0) z0 5, eqC E A2 (ordN x) (fun _ => z0) z0 6, eqC E A2 (ordN x) (fun _ => z0) z0 7, lsC E A5 (fun _ => z0) (fun _ => false) (fun _ => some 0) z0 0, lsC E A5 (fun _ => z0) (fun _ => false) (fun _ => some 0) z0 1, lsC E A5 (fun _ => z0) (fun _ => false) (fun _ => some 0) z0 2, lsC E A5 (fun _ => z0) (fun _ => false) (fun _ => some 0) z0 3, lsC E A5 (fun _ => z0) (fun _ => false) (fun _ => some 0) z0 4, lsC E A5 (fun _ => z0) (fun _ => false) (fun _ => some 0) z0 5, lsC E A5 (fun _ => z0) (fun _ => false) (fun _ => some 0) z0 6, lsC E A5 (fun _ => z0) (fun _ => false) (fun _ => some 0) z0 7, lsC E A5 (fun _ => z0) (fun _ => false) (fun _ => some 0) z0 8, lsC E A5 (fun _ => z0) (fun _ => false) (fun _ => some 0) z0 9, lsC E A5 (fun _ => z0) (fun _ => false) (fun _ => some 0) z0 10, lsC E A5 (fun _ => z0) (fun _ => false) (fun _ => some 0) z0 11, lsC E A5 (fun _ => z0) (fun _ => false) (fun _ => some 0) z0 12, lsC E A5 (fun _ => z0) (fun _ => false) (fun _ => some 0) z0 13, lsC E A5 (fun _ => z0) (fun _ => false) (fun _ => some 0) z0 14, lsC E A5 (fun _ => z0) (fun _ => false) (fun _ => some 0) z0 15, lsC E A5 (fun _ => z0) (fun _ => false) (fun _ => some 0) z0 16, lsC E A5 (fun _ => z0) (fun _ => false) (fun _ => some 0) z0 17, lsC E A5 (fun _ => z0) (fun _ => false) (fun _ => some 0) z0 18, lsC E A5 (fun _ => z0) (fun _ => false) (fun _ => some 0) z0 19, lsC E A5 (fun _ => z0) (fun _ => false) (fun _ => some 0) z0 20, lsC E A5 (fun _ => z0) (fun _ => false) (fun _ => some 0) z0 21, lsC E A5 (fun _ => z0) (fun _ => false) (fun _ => some 0) z0 22, lsC E A5 (fun _ => z0) (fun _ => false) (fun _ => some 0) z0 23, anC E A8 0, anC E A8 1, anC E A8 2, anC E A8 3, anC E A8 4, anC E A8 5, anC E A8 6, anC E A8 7, anC E A8 8, anC E A8 9, anC E A8 10, anC E A8 11, anC E A8 12, anC E A8 13, anC E A8 14, anC E A8 15, anC E A8 16, anC E A8 17, anC E A8 18, anC E A8 19, anC E A8 20, anC E A8 21, vlK E A11 0, vlK E A11 1, roC E A14 0 z0 z0 z0 z0 z0 z0 0, roC E A14 0 z0 z0 z0 z0 z0 z0 1, roC E A14 0 z0 z0 z0 z0 z0 z0 2, roC E A14 0 z0 z0 z0 z0 z0 z0 3, roC E A14 0 z0 z0 z0 z0 z0 z0 4, roC E A14 0 z0 z0 z0 z0 z0 z0 5, roC E A14 0 z0 z0 z0 z0 z0 z0 6, ga_i E 13 (fun _ => 0)] H16) => ?_)
  refine bl_putF hB16 dX8_init_73 cls_X8 6 (by decide) fl_X8_55 ⟨rfl, rfl, rfl⟩ rfl rfl (Nat.le_of_ble_eq_true rfl) (Nat.le_of_ble_eq_true rfl) rfl rfl (fun H17 (hB17 : BkL h [q, A2 0, A2 1, A2 2, A2 3, A2 4, A2 5, A2 6, A2 7, A5 0, A5 1, A5 2, A5 3, A5 4, A5 5, A5 6, A5 7, A5 8, A5 9, A5 10, A5 11, A5 12, A5 13, A5 14, A5 15, A5 16, A5 17, A5 18, A5 19, A5 20, A5 21, A5 22, A5 23, A8 0, A8 1, A8 2, A8 3, A8 4, A8 5, A8 6, A8 7, A8 8, A8 9, A8 10, A8 11, A8 12, A8 13, A8 14, A8 15, A8 16, A8 17, A8 18, A8 19, A8 20, A8 21, A11 0, A11 1, A14 0, A14 1, A14 2, A14 3, A14 4, A14 5, A14 6, q16] [ga_o 8 [.ref (A2 0), .ref (A5 0), .ref (A8 0), .ref (A11 0), .ref (A14 0), .int 0, .ref q16], eqC E A2 (ordN x) (fun _ => z0) z0 0, eqC E A2 (ordN x) (fun _ => z0) z0 1, eqC E A2 (ordN x) (fun _ => z0) z0 2, eqC E A2 (ordN x) (fun _ => z0) z0 3, eqC E A2 (ordN x) (fun _ => z0) z0 4, eqC E A2 (ordN x) (fun _ => z0) z0 5, eqC E A2 (ordN x) (fun _ => z0) z0 6, eqC E A2 (ordN x) (fun _ => z0) z0 7, lsC E A5 (fun _ => z0) (fun _ => false) (fun _ => some 0) z0 0, lsC E A5 (fun _ => z0) (fun _ => false) (fun _ => some 0) z0 1, lsC E A5 (fun _ => z0) (fun _ => false) (fun _ => some 0) z0 2, lsC E A5 (fun _ => z0) (fun _ => false) (fun _ => some 0) z0 3, lsC E A5 (fun _ => z0) (fun _ => false) (fun _ => some 0) z0 4, lsC E A5 (fun _ => z0) (fun _ => false) (fun _ => some 0) z0 5, lsC E A5 (fun _ => z0) (fun _ => false) (fun _ => some 0) z0 6, lsC E A5 (fun _ => z0) (fun _ => false) (fun _ => some 0) z0 7, lsC E A5 (fun _ => z0) (fun _ => false) (fun _ => some 0) z0 8, lsC E A5 (fun _ => z0) (fun _ => false) (fun _ => some 0) z0 9, lsC E A5 (fun _ => z0) (fun _ => false) (fun _ => some 0) z0 10, lsC E A5 (fun _ => z0) (fun _ => false) (fun _ => some 0) z0 11, lsC E A5 (fun _ => z0) (fun _ => false) (fun _ => some 0) z0 12, lsC E A5 (fun _ => z0) (fun _ => false) (fun _ => some 0) z0 13, lsC E A5 (fun _ => z0) (fun _ => false) (fun _ => some 0) z0 14, lsC E A5 (fun _ => z0) (fun _ => false) (fun _ => some 0) z0 15, lsC E A5 (fun _ => z0) (fun _ => false) (fun _ => some 0) z0 16, lsC E A5 (fun _ => z0) (fun _ => false) (fun _ => some 0) z0 17, lsC E A5 (fun _ => z0) (fun _ => false) (fun _ => some 0) z0 18, lsC E A5 (fun _ => z0) (fun _ => false) (fun _ => some 0) z0 19, lsC E A5 (fun _ => z0) (fun _ => false) (fun _ => some 0) z0 20, lsC E A5 (fun _ => z0) (fun _ => false) (fun _ => some 0) z0 21, lsC E A5 (fun _ => z0) (fun _ => false) (fun _ => some 0) z0 22, lsC E A5 (fun _ => z0) (fun _ => false) (fun _ => some 0) z0 23, anC E A8 0, anC E A8 1, anC E A8 2, anC E A8 3, anC E A8 4, anC E A8 5, anC E A8 6, anC E A8 7, anC E A8 8, anC E A8 9, anC E A8 10, anC E A8 11, anC E A8 12, anC E A8 13, anC E A8 14, anC E A8 15, anC E A8 16, anC E A8 17, anC E A8 18, anC E A8 19, anC E A8 20, anC E A8 21, vlK E A11 0, vlK E A11 1, roC E A14 0 z0 z0 z0 z0 z0 z0 0, roC E A14 0 z0 z0 z0 z0 z0 z0 1, roC E A14 0 z0 z0 z0 z0 z0 z0 2, roC E A14 0 z0 z0 z0 z0 z0 z0 3, roC E A14 0 z0 z0 z0 z0 z0 z0 4, roC E A14 0 z0 z0 z0 z0 z0 z0 5, roC E A14 0 z0 z0 z0 z0 z0 z0 6, ga_i E 13 (fun _ => 0)] H17) => ?_)
  have hF := hB17.2.perm (n := 65) pm_p pm_r pm_1 pm_2
  have hG : Blk h (lz [q, q16, A2 0, A2 1, A2 2, A2 3, A2 4, A2 5, A2 6, A2 7, A5 0, A5 1, A5 2, A5 3, A5 4, A5 5, A5 6, A5 7, A5 8, A5 9, A5 10, A5 11, A5 12, A5 13, A5 14, A5 15, A5 16, A5 17, A5 18, A5 19, A5 20, A5 21, A5 22, A5 23, A8 0, A8 1, A8 2, A8 3, A8 4, A8 5, A8 6, A8 7, A8 8, A8 9, A8 10, A8 11, A8 12, A8 13, A8 14, A8 15, A8 16, A8 17, A8 18, A8 19, A8 20, A8 21, A11 0, A11 1, A14 0, A14 1, A14 2, A14 3, A14 4, A14 5, A14 6]) (lc [ga_o 8 [.ref (A2 0), .ref (A5 0), .ref (A8 0), .ref (A11 0), .ref (A14 0), .int 0, .ref q16], ga_i E 13 (fun _ => 0), eqC E A2 (ordN x) (fun _ => z0) z0 0, eqC E A2 (ordN x) (fun _ => z0) z0 1, eqC E A2 (ordN x) (fun _ => z0) z0 2, eqC E A2 (ordN x) (fun _ => z0) z0 3, eqC E A2 (ordN x) (fun _ => z0) z0 4, eqC E A2 (ordN x) (fun _ => z0) z0 5, eqC E A2 (ordN x) (fun _ => z0) z0 6, eqC E A2 (ordN x) (fun _ => z0) z0 7, lsC E A5 (fun _ => z0) (fun _ => false) (fun _ => some 0) z0 0, lsC E A5 (fun _ => z0) (fun _ => false) (fun _ => some 0) z0 1, lsC E A5 (fun _ => z0) (fun _ => false) (fun _ => some 0) z0 2, lsC E A5 (fun _ => z0) (fun _ => false) (fun _ => some 0) z0 3, lsC E A5 (fun _ => z0) (fun _ => false) (fun _ => some 0) z0 4, lsC E A5 (fun _ => z0) (fun _ => false) (fun _ => some 0) z0 5, lsC E A5 (fun _ => z0) (fun _ => false) (fun _ => some 0) z0 6, lsC E A5 (fun _ => z0) (fun _ => false) (fun _ => some 0) z0 7, lsC E A5 (fun _ => z0) (fun _ => false) (fun _ => some 0) z0 8, lsC E A5 (fun _ => z0) (fun _ => false) (fun _ => some 0) z0 9, lsC E A5 (fun _ => z0) (fun _ => false) (fun _ => some 0) z0 10, lsC E A5 (fun _ => z0) (fun _ => false) (fun _ => some 0) z0 11, lsC E A5 (fun _ => z0) (fun _ => false) (fun _ => some 0) z0 12, lsC E A5 (fun _ => z0) (fun _ => false) (fun _ => some 0) z0 13, lsC E A5 (fun _ => z0) (fun _ => false) (fun _ => some 0) z0 14, lsC E A5 (fun _ => z0) (fun _ => false) (fun _ => some 0) z0 15, lsC E A5 (fun _ => z0) (fun _ => false) (fun _ => some 0) z0 16, lsC E A5 (fun _ => z0) (fun _ => false) (fun _ => some 0) z0 17, lsC E A5 (fun _ => z0) (fun _ => false) (fun _ => some 0) z0 18, lsC E A5 (fun _ => z0) (fun _ => false) (fun _ => some 0) z0 19, lsC E A5 (fun _ => z0) (fun _ => false) (fun _ => some 0) z0 20, lsC E A5 (fun _ => z0) (fun _ => false) (fun _ => some 0) z0 21, lsC E A5 (fun _ => z0) (fun _ => false) (fun _ => some 0) z0 22, lsC E A5 (fun _ => z0) (fun _ => false) (fun _ => some 0) z0 23, anC E A8 0, anC E A8 1, anC E A8 2, anC E A8 3, anC E A8 4, anC E A8 5, anC E A8 6, anC E A8 7, anC E A8 8, anC E A8 9, anC E A8 10, anC E A8 11, anC E A8 12, anC E A8 13, anC E A8 14, anC E A8 15, anC E A8 16, anC E A8 17, anC E A8 18, anC E A8 19, anC E A8 20, anC E A8 21, vlK E A11 0, vlK E A11 1, roC E A14 0 z0 z0 z0 z0 z0 z0 0, roC E A14 0 z0 z0 z0 z0 z0 z0 1, roC E A14 0 z0 z0 z0 z0 z0 z0 2, roC E A14 0 z0 z0 z0 z0 z0 z0 3, roC E A14 0 z0 z0 z0 z0 z0 z0 4, roC E A14 0 z0 z0 z0 z0 z0 z0 5, roC E A14 0 z0 z0 z0 z0 z0 z0 6]) 65 _ := hF.congr (fun k hk => by rcases k with _ | _ | _ | _ | _ | _ | _ | _ | _ | _ | _ | _ | _ | _ | _ | _ | _ | _ | _ | _ | _ | _ | _ | _ | _ | _ | _ | _ | _ | _ | _ | _ | _ | _ | _ | _ | _ | _ | _ | _ | _ | _ | _ | _ | _ | _ | _ | _ | _ | _ | _ | _ | _ | _ | _ | _ | _ | _ | _ | _ | _ | _ | _ | _ | _ | k <;> first | rfl | omega) (fun k hk => by rcases k with _ | _ | _ | _ | _ | _ | _ | _ | _ | _ | _ | _ | _ | _ | _ | _ | _ | _ | _ | _ | _ | _ | _ | _ | _ | _ | _ | _ | _ | _ | _ | _ | _ | _ | _ | _ | _ | _ | _ | _ | _ | _ | _ | _ | _ | _ | _ | _ | _ | _ | _ | _ | _ | _ | _ | _ | _ | _ | _ | _ | _ | _ | _ | _ | _ | k <;> first | rfl | omega)
  refine gr_return dX8_init_76 rfl (Nat.le_of_ble_eq_true rfl) (Nat.le_of_ble_eq_true rfl) ⟨rfl, _, _, rfl, hG, ?_⟩
  · refine ⟨rfl, rfl, fun k hk => ?_, ⟨fun _ => z0, fun _ => false, fun _ => some 0, z0, fun _ _ => rfl, fun k hk => ?_⟩, rfl, ⟨z0, z0, z0, z0, z0, ⟨fun _ _ => rfl, fun _ _ => rfl, fun _ _ => rfl, fun _ _ => rfl, fun _ _ => rfl⟩, fun k hk => ?_⟩, ⟨z0, rfl⟩, rfl, rfl, rfl, rfl, ?_, fun i hi => ?_, rfl, rfl, ⟨z0, z0, z0, z0, z0, ⟨fun _ _ => rfl, fun _ _ => rfl, fun _ _ => rfl, fun _ _ => rfl, fun _ _ => rfl⟩, fun k hk => ?_⟩⟩
    · rcases k with _ | _ | _ | _ | _ | _ | _ | _ | k
      · rfl
      · refine congrArg (ga_ii E 5) (funext fun i => ?_)
        rcases i with _ | _ | _ | _ | _ | i <;> rfl
      · rfl
      · rfl
      · rfl
      · rfl
      · rfl
      · rfl
      · omega
    · rcases k with _ | _ | _ | _ | _ | _ | _ | _ | _ | _ | _ | _ | _ | _ | _ | _ | _ | _ | _ | _ | _ | _ | _ | _ | k
      · rfl
      · refine congrArg (ga_ii E 19) (funext fun i => ?_)
        rcases i with _ | _ | _ | _ | _ | _ | _ | _ | _ | _ | _ | _ | _ | _ | _ | _ | _ | _ | _ | i <;> rfl
      · rfl
      · rfl
      · rfl
      · rfl
      · rfl
      · rfl
      · rfl
      · rfl
      · rfl
      · rfl
      · rfl
      · rfl
      · rfl
      · rfl
      · rfl
      · rfl
      · rfl
      · rfl
      · rfl
      · rfl
      · rfl
      · rfl
      · omega
    · rcases k with _ | _ | _ | _ | _ | _ | _ | k
      · rfl
      · rfl
      · rfl
      · rfl
      · rfl
      · rfl
      · rfl
      · omega
    · refine congrArg (ga_rr E 4) (funext fun i => ?_)
      rcases i with _ | _ | _ | _ | i <;> rfl
    · rcases i with _ | _ | _ | _ | i
      · exact ⟨rfl, rfl⟩
      · exact ⟨rfl, rfl⟩
      · exact ⟨rfl, rfl⟩
      · exact ⟨rfl, rfl⟩
      · omega
    · rcases k with _ | _ | _ | _ | _ | _ | _ | k
      · rfl
      · rfl
      · rfl
      · rfl
      · rfl
      · rfl
      · rfl
      · omega
