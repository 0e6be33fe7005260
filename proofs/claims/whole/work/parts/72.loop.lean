/-! The law's loop -/
theorem and31 (x : Int32) : ∃ j : Nat, j < 32 ∧ x &&& nI 31 = nI j := by
  refine ⟨(x &&& nI 31).toBitVec.toNat, ?_, ?_⟩
  · have e : (x &&& nI 31).toBitVec.toNat ≤ 31 := by
      rw [Int32.toBitVec_and, BitVec.toNat_and]
      exact Nat.and_le_right
    omega
  · exact Int32.toBitVec_inj.mp (by rw [show nI (x &&& nI 31).toBitVec.toNat = Int32.ofNat (x &&& nI 31).toBitVec.toNat from rfl, Int32.toBitVec_ofNat', BitVec.ofNat_toNat, BitVec.setWidth_eq])
theorem len7 {L i : Nat} (hL : L ≤ 3585) (hi : i < 4000) : nI L - nI 7 < nI i ↔ L < i + 7 := by
  by_cases c : 7 ≤ L
  · have e : nI L - nI 7 = nI (L - 7) := by
      have := nI_add (L - 7) 7
      rw [show L - 7 + 7 = L by omega] at this
      rw [← this]; exact Int32.add_sub_cancel _ _
    rw [e, nI_ltI (by omega) (by omega)]; omega
  · have hneg : nI L - nI 7 < 0 := by
      have hc : L = 0 ∨ L = 1 ∨ L = 2 ∨ L = 3 ∨ L = 4 ∨ L = 5 ∨ L = 6 := by omega
      rcases hc with rfl | rfl | rfl | rfl | rfl | rfl | rfl <;> decide
    refine ⟨fun _ => by omega, fun _ => ?_⟩
    exact Int32.lt_of_lt_of_le hneg (Int32.not_lt.mp (nI_pos (by omega)))
-- GEN
set_option maxHeartbeats 4000000 in
set_option maxRecDepth 100000 in
theorem law_loop (l : Launch) (hl0 : l.stackTraces = false) (E : ga_E) (b L : Nat) (xs : Nat → Int32) (hbE : b < ga_N0 E) (hL : L ≤ 3585) (Z A : Nat → Nat) (q : Nat) (hD : Dj Z A q) (ZZ : List Frame → Array Value → State → State → Prop) (kend : ∀ (lv : List (Option Value)) (H : ga_H), ga_G l E mL_law room_1 (Zs b L xs ZZ) 1203 lv [.int (nI 1)] H 603072 7165560) : ∀ (g t : Nat), t + g = 512 → ∀ (c md : Nat → va_E) (w : Nat → Int64) (x5 x6 : Option Value), RLa E Z A c md → ga_G l E mL_law room_1 (Zs b L xs ZZ) 33 [some (.ref b), some (.ref (Z 0)), some (.ref (A 0)), some (.ref q), some (.int (nI (1 + 7 * t))), x5, x6] [] (HP Z c A md q (ga_j E 1 w)) (100 + 3 * t) (10000 + 18 * t) := by
  intro g
  induction g with
  | zero =>
    intro t ht c md w x5 x6 hR
    refine gr_iload dL_law_33 rfl (gr_aload_n dL_law_35 rfl (gr_slen dL_law_36 hbE (gr_bipush (v := nI 7) dL_law_37 (by decide) (gr_isub dL_law_39 ?_))))
    refine gr_icmpgt 1202 dL_law_40 (by decide) (fun _ => ?_) (fun z => absurd ((len7 hL (by omega)).mpr (by omega)) z)
    refine gr_iconst (v := nI 1) dL_law_1202 rfl ?_
    exact gr_wide (by omega) (by omega) (kend _ _)
  | succ g ih =>
    intro t ht c md w x5 x6 hR
    refine gr_iload dL_law_33 rfl (gr_aload_n dL_law_35 rfl (gr_slen dL_law_36 hbE (gr_bipush (v := nI 7) dL_law_37 (by decide) (gr_isub dL_law_39 ?_))))
    refine gr_icmpgt 1202 dL_law_40 (by decide) (fun _ => ?_) (fun z => ?_)
    · refine gr_iconst (v := nI 1) dL_law_1202 rfl ?_
      exact gr_wide (by omega) (by omega) (kend _ _)
    · have hi : 1 + 7 * t + 7 ≤ L := Nat.not_lt.mp (fun y => z ((len7 hL (by omega)).mpr y))
      have kk : ∀ (c' md' : Nat → va_E) (w' : Nat → Int64) (x5 x6 : Option Value), RLa E Z A c' md' → ga_G l E mL_law room_1 (Zs b L xs ZZ) 1196 [some (.ref b), some (.ref (Z 0)), some (.ref (A 0)), some (.ref q), some (.int (nI (1 + 7 * t))), x5, x6] [] (HP Z c' A md' q (ga_j E 1 w')) (100 + 3 * t + 3) (10000 + 18 * t + 18) := fun c' md' w' x5 x6 hR' => by
        refine gr_iinc (v := nI (1 + 7 * (t + 1))) dL_law_1196 rfl ?_ (by decide) rfl ?_
        · rw [show 1 + 7 * (t + 1) = 1 + 7 * t + 7 by omega]; exact nI_add (1 + 7 * t) 7
        · refine gr_goto 33 dL_law_1199 (by decide) ?_
          exact gr_wide (by omega) (by omega) (ih (t + 1) (by omega) c' md' w' x5 x6 hR')
      refine gr_aload_n dL_law_43 rfl (gr_iload dL_law_44 rfl (gr_sld dL_law_46 hbE (by omega) hL (gr_bipush (v := nI 31) dL_law_47 (by decide) (gr_iand dL_law_49 ?_))))
      obtain ⟨j, hj, ej⟩ := and31 (xs (1 + 7 * t))
      refine gr_top (congrArg Value.int ej) ?_
      have hcs : 100 + 3 * t + 3 ≤ 603072 ∧ 10000 + 18 * t + 18 ≤ 7165560 := by omega
      by_cases h16 : j ≤ 16
      · rcases j with _ | _ | _ | _ | _ | _ | _ | _ | _ | _ | _ | _ | _ | _ | _ | _ | _ | j
        · exact gr_tabIn (off := 82) 132 dL_law_50 (by decide) (by decide) (by decide) (by decide) (op_factor l hl0 E b L xs hbE hL Z A q hD ZZ c md w hR _ hi x5 x6 _ _ hcs kk)
        · exact gr_tabIn (off := 247) 297 dL_law_50 (by decide) (by decide) (by decide) (by decide) (op_right l hl0 E b L xs hbE hL Z A q hD ZZ c md w hR _ hi x5 x6 _ _ hcs kk)
        · exact gr_tabIn (off := 398) 448 dL_law_50 (by decide) (by decide) (by decide) (by decide) (op_run l hl0 E b L xs hbE hL Z A q hD ZZ c md w hR _ hi x5 x6 _ _ hcs kk)
        · exact gr_tabIn (off := 411) 461 dL_law_50 (by decide) (by decide) (by decide) (by decide) (op_polynomials l hl0 E b L xs hbE hL Z A q hD ZZ c md w hR _ hi x5 x6 _ _ hcs kk)
        · exact gr_tabIn (off := 455) 505 dL_law_50 (by decide) (by decide) (by decide) (by decide) (op_answer l hl0 E b L xs hbE hL Z A q hD ZZ c md w hR _ hi x5 x6 _ _ hcs kk)
        · exact gr_tabIn (off := 523) 573 dL_law_50 (by decide) (by decide) (by decide) (by decide) (op_meets l hl0 E b L xs hbE hL Z A q hD ZZ c md w hR _ hi x5 x6 _ _ hcs kk)
        · exact gr_tabIn (off := 574) 624 dL_law_50 (by decide) (by decide) (by decide) (by decide) (op_powers l hl0 E b L xs hbE hL Z A q hD ZZ c md w hR _ hi x5 x6 _ _ hcs kk)
        · exact gr_tabIn (off := 618) 668 dL_law_50 (by decide) (by decide) (by decide) (by decide) (op_base l hl0 E b L xs hbE hL Z A q hD ZZ c md w hR _ hi x5 x6 _ _ hcs kk)
        · exact gr_tabIn (off := 674) 724 dL_law_50 (by decide) (by decide) (by decide) (by decide) (op_many l hl0 E b L xs hbE hL Z A q hD ZZ c md w hR _ hi x5 x6 _ _ hcs kk)
        · exact gr_tabIn (off := 730) 780 dL_law_50 (by decide) (by decide) (by decide) (by decide) (op_times l hl0 E b L xs hbE hL Z A q hD ZZ c md w hR _ hi x5 x6 _ _ hcs kk)
        · exact gr_tabIn (off := 810) 860 dL_law_50 (by decide) (by decide) (by decide) (by decide) (op_start l hl0 E b L xs hbE hL Z A q hD ZZ c md w hR _ hi x5 x6 _ _ hcs kk)
        · exact gr_tabIn (off := 867) 917 dL_law_50 (by decide) (by decide) (by decide) (by decide) (op_value l hl0 E b L xs hbE hL Z A q hD ZZ c md w hR _ hi x5 x6 _ _ hcs kk)
        · exact gr_tabIn (off := 923) 973 dL_law_50 (by decide) (by decide) (by decide) (by decide) (op_singular l hl0 E b L xs hbE hL Z A q hD ZZ c md w hR _ hi x5 x6 _ _ hcs kk)
        · exact gr_tabIn (off := 948) 998 dL_law_50 (by decide) (by decide) (by decide) (by decide) (op_end l hl0 E b L xs hbE hL Z A q hD ZZ c md w hR _ hi x5 x6 _ _ hcs kk)
        · exact gr_tabIn (off := 1004) 1054 dL_law_50 (by decide) (by decide) (by decide) (by decide) (op_rest l hl0 E b L xs hbE hL Z A q hD ZZ c md w hR _ hi x5 x6 _ _ hcs kk)
        · exact gr_tabIn (off := 1060) 1110 dL_law_50 (by decide) (by decide) (by decide) (by decide) (op_put l hl0 E b L xs hbE hL Z A q hD ZZ c md w hR _ hi x5 x6 _ _ hcs kk)
        · exact gr_tabIn (off := 1135) 1185 dL_law_50 (by decide) (by decide) (by decide) (by decide) (op_clear l hl0 E b L xs hbE hL Z A q hD ZZ c md w hR _ hi x5 x6 _ _ hcs kk)
        · omega
      · refine gr_tabOut 1196 dL_law_50 (Or.inr ?_) (by decide) (gr_wide (by omega) (by omega) (kk c md w x5 x6 hR))
        have e9 : (nI j).toInt = (j : Int) := by
          rw [show nI j = Int32.ofNat j from rfl, Int32.toInt_ofNat_of_lt (by omega)]
        rw [e9]; omega
theorem St_init (x : Int32) : St (ordN x) (fun _ => z0) z0 z0 false false false 0 0 z0 z0 z0 (fun _ => 0) (fun _ => z0) 0 0 z0 0 z0 (s9 (ordN x)) z0 z0 z0 z0 z0 z0 z0 z0 z0 :=
  ⟨⟨(ordN_4 x).2, fun _ _ _ _ => rfl, fun _ _ _ _ _ => rfl⟩, rfl, fun _ _ => rfl, fun _ _ => rfl, rfl, VOk_new (by omega) (fun j hj => absurd hj (by omega)), rfl, fun z => (by cases z), ⟨by omega, by omega, fun a ha => absurd ha (by omega)⟩, fun z => (by cases z), 0, false, 0, ⟨rfl, by omega⟩, rfl, ⟨rfl, by omega, fun a ha => absurd ha (by omega)⟩, fun z => (by cases z)⟩
set_option maxHeartbeats 4000000 in
set_option maxRecDepth 100000 in
theorem law_run (l : Launch) (hl0 : l.stackTraces = false) (E : ga_E) (b L : Nat) (xs : Nat → Int32) (hbE : b < ga_N0 E) (hL : L ≤ 3585) (ZZ : List Frame → Array Value → State → State → Prop) (kend : ∀ (lv : List (Option Value)) (H : ga_H), ga_G l E mL_law room_1 (Zs b L xs ZZ) 1203 lv [.int (nI 1)] H 603072 7165560) : ga_G l E mL_law room_1 (Zs b L xs ZZ) 0 [some (.ref b), none, none, none, none, none, none] [] e0 0 0 := by
  refine gr_newO dL_law_0 cls_X8 ⟨cl_L_8, wn_X8, wi_X8⟩ (fs := [.null, .null, .null, .null, .null, .int 0, .null]) (fun j hj => by rcases j with _ | _ | _ | _ | _ | _ | _ | j <;> first | rfl | omega) ⟨by decide, by decide⟩ (fun q1 hq1 => ?_)
  refine gr_dup dL_law_3 rfl (gr_aload_n dL_law_4 rfl (gr_iconst (v := nI 0) dL_law_5 rfl ?_))
  refine gr_callSS dL_law_6 (c_cell l E 5 _ b L xs hbE hL 0 (by omega)) hbE ysL_cell ⟨ml_L_64, sm_L_cell⟩ rfl rfl (Nat.le_of_ble_eq_true rfl) ⟨by decide, by decide⟩ ⟨by decide, by decide⟩ (fun r0 h1 hp => ?_)
  obtain ⟨rfl, rfl⟩ := hp
  refine gr_callI dL_law_9 (c_X8_init l E 5 _ q1 hq1 _) ysX8_init rfl rfl ⟨ml_L_70, im_X8_init⟩ rfl rfl (Nat.le_of_ble_eq_true rfl) ⟨by decide, by decide⟩ ⟨by decide, by decide⟩ (fun r0 h1 hp => ?_)
  obtain ⟨rfl, Z, c, hz, hB, hI⟩ := hp
  subst hz
  refine gr_astore_n dL_law_12 (by decide) rfl ?_
  refine gr_newO dL_law_13 cls_X9 ⟨cl_L_73, wn_X9, wi_X9⟩ (fs := [.int 0, .int 0, .null, .null, .null, .int 0, .null, .null, .int 0, .int 0, .null, .int 0, .null, .int 0, .null, .null, .null, .null, .null, .null, .null, .null]) (fun j hj => by rcases j with _ | _ | _ | _ | _ | _ | _ | _ | _ | _ | _ | _ | _ | _ | _ | _ | _ | _ | _ | _ | _ | _ | j <;> first | rfl | omega) ⟨by decide, by decide⟩ (fun q2 hq2 => ?_)
  refine gr_dup dL_law_16 rfl (gr_aload_n dL_law_17 rfl (gr_iconst (v := nI 0) dL_law_18 rfl ?_))
  refine gr_callSS dL_law_19 (c_cell l E 5 _ b L xs hbE hL 0 (by omega)) hbE ysL_cell ⟨ml_L_64, sm_L_cell⟩ rfl rfl (Nat.le_of_ble_eq_true rfl) ⟨by decide, by decide⟩ ⟨by decide, by decide⟩ (fun r0 h2 hp => ?_)
  obtain ⟨rfl, rfl⟩ := hp
  refine gr_callI dL_law_22 (c_X9_init l E 5 _ q2 hq2 _) ysX9_init rfl rfl ⟨ml_L_75, im_X9_init⟩ rfl rfl (Nat.le_of_ble_eq_true rfl) ⟨by decide, by decide⟩ ⟨by decide, by decide⟩ (fun r0 h2 hp => ?_)
  obtain ⟨rfl, A, hz, hB2⟩ := hp
  subst hz
  refine gr_astore_n dL_law_25 (by decide) rfl ?_
  refine gr_iconst (v := nI 1) dL_law_26 rfl ?_
  refine gr_newJ dL_law_27 ac_long (by decide) ⟨by decide, by decide⟩ (fun q hq => ?_)
  refine gr_astore_n dL_law_29 (by decide) rfl ?_
  refine gr_iconst (v := nI 1) dL_law_30 rfl (gr_istore dL_law_31 (by decide) rfl ?_)
  have hq3 : ∀ i, i < 65 → q ≠ Z i := fun i hi z => by
    have := (hB2.other (hB.at hi)).1
    rw [← z, hq] at this
    cases this
  have hq4 : ∀ j, j < 16 → q ≠ A j := fun j hj z => by
    have := hB2.at hj
    rw [← z, hq] at this
    cases this
  have hD : Dj Z A q := ⟨hB.1, hB2.1, fun i hi j hj => (hB2.other (hB.at hi)).2 j hj, hq3, hq4⟩
  have hHP : ga_up h2 q (ga_j E 1 (fun _ => 0)) = HP Z c A (mdC E A (s9 (ordN (scr L xs 0))) z0 z0 z0 z0 z0 z0 z0 z0 z0 z0 z0 z0 z0 (fun _ => some 0) z0) q (ga_j E 1 (fun _ => 0)) := by
    unfold HP
    rw [← hB.2.2, ← hB2.2.2]
  refine gr_h hHP ?_
  exact gr_wide (Nat.le_of_ble_eq_true rfl) (Nat.le_of_ble_eq_true rfl) (law_loop l hl0 E b L xs hbE hL Z A q hD ZZ kend 512 0 (by omega) c _ _ _ _ ⟨_, _, _, _, _, _, _, _, _, _, _, _, _, _, _, _, _, _, _, _, _, _, _, _, _, _, _, _, _, _, _, _, _, _, _, _, _, hI, rfl, St_init _⟩)
