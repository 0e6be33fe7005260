/-! The law's helpers: each calls the component and tells what was thrown -/
def zJ (v : Int32) : Int64 := if v = 0 then lN 0 else lN 1
abbrev hh_factor : List (Nat × Nat × Nat × Nat) := [(0, 21, 24, 13), (0, 21, 28, 15), (0, 21, 32, 17)]
abbrev mL_factor : ga_M := (yL_factor, cL_factor, 9, (some .int), tableOf hh_factor)
set_option maxHeartbeats 4000000 in
set_option maxRecDepth 100000 in
theorem h_factor (l : Launch) (E : ga_E) (d : Nat) (H : ga_H) (x q : Nat) (w : Nat → Int64) (fs : List Value) (p0 : Int32) (p1 : Int32) (p2 : Int64) (p3 : Int64) (nc ns : Nat) (Post : Option Value → ga_H → Prop) (PX : String → ga_H → Prop) (PP : Option Value → ga_H → Prop) (hx : H x = some (ga_o 8 fs)) (hM : ga_OkX l E d mX8_factor [.ref x, .int p0, .int p1, .long p2, .long p3] H nc ns Post PX) (hok : ∀ r h', Post r h' → ∃ v, r = some (.int v) ∧ h' q = some (ga_j E 1 w) ∧ PP (some (.int (nI 0))) (ga_up h' q (ga_j E 1 (vp_updL w 0 (zJ v))))) (hX : ∀ Y h', PX Y h' → (Y = nmB ∧ PP (some (.int (nI 1))) h') ∨ (Y = nmI ∧ PP (some (.int (nI 2))) h') ∨ (Y = nmR ∧ PP (some (.int (nI 3))) h')) : ga_OkW l E (d + 1) mL_factor hh_factor [.ref x, .int p0, .int p1, .long p2, .long p3, .ref q] H nc ns PP := by
  refine ga_OkW.of 1 _ (by decide) rfl (Nat.le_of_ble_eq_true rfl) rfl ?_
  have hz1 : 0 + nc ≤ nc := by omega
  have hz2 : 0 + ns ≤ ns := by omega
  refine gr_aload dL_factor_0 rfl ?_
  refine gr_iconst (v := nI 0) dL_factor_2 rfl ?_
  refine gr_aload_n dL_factor_3 rfl ?_
  refine gr_iload_n dL_factor_4 rfl ?_
  refine gr_iload_n dL_factor_5 rfl ?_
  refine gr_lload_n dL_factor_6 rfl ?_
  refine gr_lload dL_factor_7 rfl ?_
  refine gr_callVX dL_factor_9 hM ysX8_factor ⟨ml_L_7, im_X8_factor, sl_X8_factor⟩ hx (show vwCl[8]? = some (RX8, TX8, _) from rfl) rfl rfl (Nat.le_of_ble_eq_true rfl) ⟨(Nat.le_refl _), (Nat.le_refl _)⟩ ⟨by show 0 + nc ≤ nc; omega, by show 0 + ns ≤ ns; omega⟩ (fun Y h2 hp => ?_) (fun r0 h2 hp => ?_)
  · rcases hX Y h2 hp with ⟨rfl, hpp⟩ | ⟨rfl, hpp⟩ | ⟨rfl, hpp⟩
    · exact gt_catch [] ⟨0, 21, 24, 13⟩ [⟨0, 21, 28, 15⟩, ⟨0, 21, 32, 17⟩] rfl (by decide) (by decide) (fun _ z => absurd z List.not_mem_nil) cl_L_13 ⟨rfl, by decide +kernel⟩ (fun qx => gr_astore dL_factor_24 (by decide) rfl (gr_iconst (v := nI 1) dL_factor_26 rfl (gr_X (gr_ireturn dL_factor_27 rfl hz1 hz2 hpp))))
    · exact gt_catch [⟨0, 21, 24, 13⟩] ⟨0, 21, 28, 15⟩ [⟨0, 21, 32, 17⟩] rfl (by decide) (by decide) (fun z hz => by
        simp only [List.mem_cons, List.not_mem_nil, or_false] at hz
        subst hz
        exact ⟨by decide, _, cl_L_13, by decide +kernel⟩) cl_L_15 ⟨rfl, by decide +kernel⟩ (fun qx => gr_astore dL_factor_28 (by decide) rfl (gr_iconst (v := nI 2) dL_factor_30 rfl (gr_X (gr_ireturn dL_factor_31 rfl hz1 hz2 hpp))))
    · exact gt_catch [⟨0, 21, 24, 13⟩, ⟨0, 21, 28, 15⟩] ⟨0, 21, 32, 17⟩ [] rfl (by decide) (by decide) (fun z hz => by
        simp only [List.mem_cons, List.not_mem_nil, or_false] at hz
        rcases hz with rfl | rfl
        · exact ⟨by decide, _, cl_L_13, by decide +kernel⟩
        · exact ⟨by decide, _, cl_L_15, by decide +kernel⟩) cl_L_17 ⟨rfl, by decide +kernel⟩ (fun qx => gr_astore dL_factor_32 (by decide) rfl (gr_iconst (v := nI 3) dL_factor_34 rfl (gr_X (gr_ireturn dL_factor_35 rfl hz1 hz2 hpp))))
  · obtain ⟨v, rfl, hv1, hv2⟩ := hok r0 h2 hp
    refine gr_ifeq 19 dL_factor_12 (by decide) (fun c => ?_) (fun c => ?_)
    · refine gr_lconst (v := lN 0) dL_factor_19 rfl ?_
      refine gr_lastore dL_factor_20 hv1 (by decide) (by decide) ?_
      refine gr_goto 36 dL_factor_21 (by decide) ?_
      refine gr_iconst (v := nI 0) dL_factor_36 rfl ?_
      exact gr_X (gr_ireturn dL_factor_37 rfl hz1 hz2 (by have e := hv2; unfold zJ at e; first | rwa [if_pos c] at e | rwa [if_neg c] at e))
    · refine gr_lconst (v := lN 1) dL_factor_15 rfl ?_
      refine gr_goto 20 dL_factor_16 (by decide) ?_
      refine gr_lastore dL_factor_20 hv1 (by decide) (by decide) ?_
      refine gr_goto 36 dL_factor_21 (by decide) ?_
      refine gr_iconst (v := nI 0) dL_factor_36 rfl ?_
      exact gr_X (gr_ireturn dL_factor_37 rfl hz1 hz2 (by have e := hv2; unfold zJ at e; first | rwa [if_pos c] at e | rwa [if_neg c] at e))

abbrev hh_right : List (Nat × Nat × Nat × Nat) := [(0, 20, 23, 15), (0, 20, 27, 17)]
abbrev mL_right : ga_M := (yL_right, cL_right, 8, (some .int), tableOf hh_right)
set_option maxHeartbeats 4000000 in
set_option maxRecDepth 100000 in
theorem h_right (l : Launch) (E : ga_E) (d : Nat) (H : ga_H) (x q : Nat) (w : Nat → Int64) (fs : List Value) (p0 : Int32) (p1 : Int64) (p2 : Int64) (nc ns : Nat) (Post : Option Value → ga_H → Prop) (PX : String → ga_H → Prop) (PP : Option Value → ga_H → Prop) (hx : H x = some (ga_o 8 fs)) (hM : ga_OkX l E d mX8_right [.ref x, .int p0, .long p1, .long p2] H nc ns Post PX) (hok : ∀ r h', Post r h' → ∃ v, r = some (.int v) ∧ h' q = some (ga_j E 1 w) ∧ PP (some (.int (nI 0))) (ga_up h' q (ga_j E 1 (vp_updL w 0 (zJ v))))) (hX : ∀ Y h', PX Y h' → (Y = nmI ∧ PP (some (.int (nI 1))) h') ∨ (Y = nmR ∧ PP (some (.int (nI 2))) h')) : ga_OkW l E (d + 1) mL_right hh_right [.ref x, .int p0, .long p1, .long p2, .ref q] H nc ns PP := by
  refine ga_OkW.of 1 _ (by decide) rfl (Nat.le_of_ble_eq_true rfl) rfl ?_
  have hz1 : 0 + nc ≤ nc := by omega
  have hz2 : 0 + ns ≤ ns := by omega
  refine gr_aload dL_right_0 rfl ?_
  refine gr_iconst (v := nI 0) dL_right_2 rfl ?_
  refine gr_aload_n dL_right_3 rfl ?_
  refine gr_iload_n dL_right_4 rfl ?_
  refine gr_lload_n dL_right_5 rfl ?_
  refine gr_lload dL_right_6 rfl ?_
  refine gr_callVX dL_right_8 hM ysX8_right ⟨ml_L_19, im_X8_right, sl_X8_right⟩ hx (show vwCl[8]? = some (RX8, TX8, _) from rfl) rfl rfl (Nat.le_of_ble_eq_true rfl) ⟨(Nat.le_refl _), (Nat.le_refl _)⟩ ⟨by show 0 + nc ≤ nc; omega, by show 0 + ns ≤ ns; omega⟩ (fun Y h2 hp => ?_) (fun r0 h2 hp => ?_)
  · rcases hX Y h2 hp with ⟨rfl, hpp⟩ | ⟨rfl, hpp⟩
    · exact gt_catch [] ⟨0, 20, 23, 15⟩ [⟨0, 20, 27, 17⟩] rfl (by decide) (by decide) (fun _ z => absurd z List.not_mem_nil) cl_L_15 ⟨rfl, by decide +kernel⟩ (fun qx => gr_astore dL_right_23 (by decide) rfl (gr_iconst (v := nI 1) dL_right_25 rfl (gr_X (gr_ireturn dL_right_26 rfl hz1 hz2 hpp))))
    · exact gt_catch [⟨0, 20, 23, 15⟩] ⟨0, 20, 27, 17⟩ [] rfl (by decide) (by decide) (fun z hz => by
        simp only [List.mem_cons, List.not_mem_nil, or_false] at hz
        subst hz
        exact ⟨by decide, _, cl_L_15, by decide +kernel⟩) cl_L_17 ⟨rfl, by decide +kernel⟩ (fun qx => gr_astore dL_right_27 (by decide) rfl (gr_iconst (v := nI 2) dL_right_29 rfl (gr_X (gr_ireturn dL_right_30 rfl hz1 hz2 hpp))))
  · obtain ⟨v, rfl, hv1, hv2⟩ := hok r0 h2 hp
    refine gr_ifeq 18 dL_right_11 (by decide) (fun c => ?_) (fun c => ?_)
    · refine gr_lconst (v := lN 0) dL_right_18 rfl ?_
      refine gr_lastore dL_right_19 hv1 (by decide) (by decide) ?_
      refine gr_goto 31 dL_right_20 (by decide) ?_
      refine gr_iconst (v := nI 0) dL_right_31 rfl ?_
      exact gr_X (gr_ireturn dL_right_32 rfl hz1 hz2 (by have e := hv2; unfold zJ at e; first | rwa [if_pos c] at e | rwa [if_neg c] at e))
    · refine gr_lconst (v := lN 1) dL_right_14 rfl ?_
      refine gr_goto 19 dL_right_15 (by decide) ?_
      refine gr_lastore dL_right_19 hv1 (by decide) (by decide) ?_
      refine gr_goto 31 dL_right_20 (by decide) ?_
      refine gr_iconst (v := nI 0) dL_right_31 rfl ?_
      exact gr_X (gr_ireturn dL_right_32 rfl hz1 hz2 (by have e := hv2; unfold zJ at e; first | rwa [if_pos c] at e | rwa [if_neg c] at e))

abbrev hh_polynomials : List (Nat × Nat × Nat × Nat) := [(0, 8, 11, 27)]
abbrev mL_polynomials : ga_M := (yL_polynomials, cL_polynomials, 3, (some .int), tableOf hh_polynomials)
set_option maxHeartbeats 4000000 in
set_option maxRecDepth 100000 in
theorem h_polynomials (l : Launch) (E : ga_E) (d : Nat) (H : ga_H) (x q : Nat) (w : Nat → Int64) (fs : List Value) (nc ns : Nat) (Post : Option Value → ga_H → Prop) (PX : String → ga_H → Prop) (PP : Option Value → ga_H → Prop) (hx : H x = some (ga_o 8 fs)) (hM : ga_OkX l E d mX8_polynomials [.ref x] H nc ns Post PX) (hok : ∀ r h', Post r h' → ∃ v, r = some (.int v) ∧ h' q = some (ga_j E 1 w) ∧ PP (some (.int (nI 0))) (ga_up h' q (ga_j E 1 (vp_updL w 0 (v.toInt64))))) (hX : ∀ Y h', PX Y h' → (Y = nmS ∧ PP (some (.int (nI 1))) h')) : ga_OkW l E (d + 1) mL_polynomials hh_polynomials [.ref x, .ref q] H nc ns PP := by
  refine ga_OkW.of 1 _ (by decide) rfl (Nat.le_of_ble_eq_true rfl) rfl ?_
  have hz1 : 0 + nc ≤ nc := by omega
  have hz2 : 0 + ns ≤ ns := by omega
  refine gr_aload_n dL_polynomials_0 rfl ?_
  refine gr_iconst (v := nI 0) dL_polynomials_1 rfl ?_
  refine gr_aload_n dL_polynomials_2 rfl ?_
  refine gr_callVX dL_polynomials_3 hM ysX8_polynomials ⟨ml_L_23, im_X8_polynomials, sl_X8_polynomials⟩ hx (show vwCl[8]? = some (RX8, TX8, _) from rfl) rfl rfl (Nat.le_of_ble_eq_true rfl) ⟨(Nat.le_refl _), (Nat.le_refl _)⟩ ⟨by show 0 + nc ≤ nc; omega, by show 0 + ns ≤ ns; omega⟩ (fun Y h2 hp => ?_) (fun r0 h2 hp => ?_)
  · rcases hX Y h2 hp with ⟨rfl, hpp⟩
    · exact gt_catch [] ⟨0, 8, 11, 27⟩ [] rfl (by decide) (by decide) (fun _ z => absurd z List.not_mem_nil) cl_L_27 ⟨rfl, by decide +kernel⟩ (fun qx => gr_astore_n dL_polynomials_11 (by decide) rfl (gr_iconst (v := nI 1) dL_polynomials_12 rfl (gr_X (gr_ireturn dL_polynomials_13 rfl hz1 hz2 hpp))))
  · obtain ⟨v, rfl, hv1, hv2⟩ := hok r0 h2 hp
    refine gr_i2l dL_polynomials_6 rfl ?_
    refine gr_lastore dL_polynomials_7 hv1 (by decide) (by decide) ?_
    refine gr_goto 14 dL_polynomials_8 (by decide) ?_
    refine gr_iconst (v := nI 0) dL_polynomials_14 rfl ?_
    exact gr_X (gr_ireturn dL_polynomials_15 rfl hz1 hz2 hv2)

abbrev hh_answer : List (Nat × Nat × Nat × Nat) := [(0, 10, 13, 27), (0, 10, 17, 15)]
abbrev mL_answer : ga_M := (yL_answer, cL_answer, 5, (some .int), tableOf hh_answer)
set_option maxHeartbeats 4000000 in
set_option maxRecDepth 100000 in
theorem h_answer (l : Launch) (E : ga_E) (d : Nat) (H : ga_H) (x q : Nat) (w : Nat → Int64) (fs : List Value) (p0 : Int32) (p1 : Int32) (nc ns : Nat) (Post : Option Value → ga_H → Prop) (PX : String → ga_H → Prop) (PP : Option Value → ga_H → Prop) (hx : H x = some (ga_o 8 fs)) (hM : ga_OkX l E d mX8_answer [.ref x, .int p0, .int p1] H nc ns Post PX) (hok : ∀ r h', Post r h' → ∃ v, r = some (.int v) ∧ h' q = some (ga_j E 1 w) ∧ PP (some (.int (nI 0))) (ga_up h' q (ga_j E 1 (vp_updL w 0 (v.toInt64))))) (hX : ∀ Y h', PX Y h' → (Y = nmS ∧ PP (some (.int (nI 1))) h') ∨ (Y = nmI ∧ PP (some (.int (nI 2))) h')) : ga_OkW l E (d + 1) mL_answer hh_answer [.ref x, .int p0, .int p1, .ref q] H nc ns PP := by
  refine ga_OkW.of 1 _ (by decide) rfl (Nat.le_of_ble_eq_true rfl) rfl ?_
  have hz1 : 0 + nc ≤ nc := by omega
  have hz2 : 0 + ns ≤ ns := by omega
  refine gr_aload_n dL_answer_0 rfl ?_
  refine gr_iconst (v := nI 0) dL_answer_1 rfl ?_
  refine gr_aload_n dL_answer_2 rfl ?_
  refine gr_iload_n dL_answer_3 rfl ?_
  refine gr_iload_n dL_answer_4 rfl ?_
  refine gr_callVX dL_answer_5 hM ysX8_answer ⟨ml_L_29, im_X8_answer, sl_X8_answer⟩ hx (show vwCl[8]? = some (RX8, TX8, _) from rfl) rfl rfl (Nat.le_of_ble_eq_true rfl) ⟨(Nat.le_refl _), (Nat.le_refl _)⟩ ⟨by show 0 + nc ≤ nc; omega, by show 0 + ns ≤ ns; omega⟩ (fun Y h2 hp => ?_) (fun r0 h2 hp => ?_)
  · rcases hX Y h2 hp with ⟨rfl, hpp⟩ | ⟨rfl, hpp⟩
    · exact gt_catch [] ⟨0, 10, 13, 27⟩ [⟨0, 10, 17, 15⟩] rfl (by decide) (by decide) (fun _ z => absurd z List.not_mem_nil) cl_L_27 ⟨rfl, by decide +kernel⟩ (fun qx => gr_astore dL_answer_13 (by decide) rfl (gr_iconst (v := nI 1) dL_answer_15 rfl (gr_X (gr_ireturn dL_answer_16 rfl hz1 hz2 hpp))))
    · exact gt_catch [⟨0, 10, 13, 27⟩] ⟨0, 10, 17, 15⟩ [] rfl (by decide) (by decide) (fun z hz => by
        simp only [List.mem_cons, List.not_mem_nil, or_false] at hz
        subst hz
        exact ⟨by decide, _, cl_L_27, by decide +kernel⟩) cl_L_15 ⟨rfl, by decide +kernel⟩ (fun qx => gr_astore dL_answer_17 (by decide) rfl (gr_iconst (v := nI 2) dL_answer_19 rfl (gr_X (gr_ireturn dL_answer_20 rfl hz1 hz2 hpp))))
  · obtain ⟨v, rfl, hv1, hv2⟩ := hok r0 h2 hp
    refine gr_i2l dL_answer_8 rfl ?_
    refine gr_lastore dL_answer_9 hv1 (by decide) (by decide) ?_
    refine gr_goto 21 dL_answer_10 (by decide) ?_
    refine gr_iconst (v := nI 0) dL_answer_21 rfl ?_
    exact gr_X (gr_ireturn dL_answer_22 rfl hz1 hz2 hv2)

abbrev hh_meets : List (Nat × Nat × Nat × Nat) := [(0, 15, 18, 27)]
abbrev mL_meets : ga_M := (yL_meets, cL_meets, 3, (some .int), tableOf hh_meets)
set_option maxHeartbeats 4000000 in
set_option maxRecDepth 100000 in
theorem h_meets (l : Launch) (E : ga_E) (d : Nat) (H : ga_H) (x q : Nat) (w : Nat → Int64) (fs : List Value) (nc ns : Nat) (Post : Option Value → ga_H → Prop) (PX : String → ga_H → Prop) (PP : Option Value → ga_H → Prop) (hx : H x = some (ga_o 8 fs)) (hM : ga_OkX l E d mX8_meets [.ref x] H nc ns Post PX) (hok : ∀ r h', Post r h' → ∃ v, r = some (.int v) ∧ h' q = some (ga_j E 1 w) ∧ PP (some (.int (nI 0))) (ga_up h' q (ga_j E 1 (vp_updL w 0 (zJ v))))) (hX : ∀ Y h', PX Y h' → (Y = nmS ∧ PP (some (.int (nI 1))) h')) : ga_OkW l E (d + 1) mL_meets hh_meets [.ref x, .ref q] H nc ns PP := by
  refine ga_OkW.of 1 _ (by decide) rfl (Nat.le_of_ble_eq_true rfl) rfl ?_
  have hz1 : 0 + nc ≤ nc := by omega
  have hz2 : 0 + ns ≤ ns := by omega
  refine gr_aload_n dL_meets_0 rfl ?_
  refine gr_iconst (v := nI 0) dL_meets_1 rfl ?_
  refine gr_aload_n dL_meets_2 rfl ?_
  refine gr_callVX dL_meets_3 hM ysX8_meets ⟨ml_L_33, im_X8_meets, sl_X8_meets⟩ hx (show vwCl[8]? = some (RX8, TX8, _) from rfl) rfl rfl (Nat.le_of_ble_eq_true rfl) ⟨(Nat.le_refl _), (Nat.le_refl _)⟩ ⟨by show 0 + nc ≤ nc; omega, by show 0 + ns ≤ ns; omega⟩ (fun Y h2 hp => ?_) (fun r0 h2 hp => ?_)
  · rcases hX Y h2 hp with ⟨rfl, hpp⟩
    · exact gt_catch [] ⟨0, 15, 18, 27⟩ [] rfl (by decide) (by decide) (fun _ z => absurd z List.not_mem_nil) cl_L_27 ⟨rfl, by decide +kernel⟩ (fun qx => gr_astore_n dL_meets_18 (by decide) rfl (gr_iconst (v := nI 1) dL_meets_19 rfl (gr_X (gr_ireturn dL_meets_20 rfl hz1 hz2 hpp))))
  · obtain ⟨v, rfl, hv1, hv2⟩ := hok r0 h2 hp
    refine gr_ifeq 13 dL_meets_6 (by decide) (fun c => ?_) (fun c => ?_)
    · refine gr_lconst (v := lN 0) dL_meets_13 rfl ?_
      refine gr_lastore dL_meets_14 hv1 (by decide) (by decide) ?_
      refine gr_goto 21 dL_meets_15 (by decide) ?_
      refine gr_iconst (v := nI 0) dL_meets_21 rfl ?_
      exact gr_X (gr_ireturn dL_meets_22 rfl hz1 hz2 (by have e := hv2; unfold zJ at e; first | rwa [if_pos c] at e | rwa [if_neg c] at e))
    · refine gr_lconst (v := lN 1) dL_meets_9 rfl ?_
      refine gr_goto 14 dL_meets_10 (by decide) ?_
      refine gr_lastore dL_meets_14 hv1 (by decide) (by decide) ?_
      refine gr_goto 21 dL_meets_15 (by decide) ?_
      refine gr_iconst (v := nI 0) dL_meets_21 rfl ?_
      exact gr_X (gr_ireturn dL_meets_22 rfl hz1 hz2 (by have e := hv2; unfold zJ at e; first | rwa [if_pos c] at e | rwa [if_neg c] at e))

abbrev hh_powers : List (Nat × Nat × Nat × Nat) := [(0, 8, 11, 27)]
abbrev mL_powers : ga_M := (yL_powers, cL_powers, 3, (some .int), tableOf hh_powers)
set_option maxHeartbeats 4000000 in
set_option maxRecDepth 100000 in
theorem h_powers (l : Launch) (E : ga_E) (d : Nat) (H : ga_H) (x q : Nat) (w : Nat → Int64) (fs : List Value) (nc ns : Nat) (Post : Option Value → ga_H → Prop) (PX : String → ga_H → Prop) (PP : Option Value → ga_H → Prop) (hx : H x = some (ga_o 8 fs)) (hM : ga_OkX l E d mX8_powers [.ref x] H nc ns Post PX) (hok : ∀ r h', Post r h' → ∃ v, r = some (.int v) ∧ h' q = some (ga_j E 1 w) ∧ PP (some (.int (nI 0))) (ga_up h' q (ga_j E 1 (vp_updL w 0 (v.toInt64))))) (hX : ∀ Y h', PX Y h' → (Y = nmS ∧ PP (some (.int (nI 1))) h')) : ga_OkW l E (d + 1) mL_powers hh_powers [.ref x, .ref q] H nc ns PP := by
  refine ga_OkW.of 1 _ (by decide) rfl (Nat.le_of_ble_eq_true rfl) rfl ?_
  have hz1 : 0 + nc ≤ nc := by omega
  have hz2 : 0 + ns ≤ ns := by omega
  refine gr_aload_n dL_powers_0 rfl ?_
  refine gr_iconst (v := nI 0) dL_powers_1 rfl ?_
  refine gr_aload_n dL_powers_2 rfl ?_
  refine gr_callVX dL_powers_3 hM ysX8_powers ⟨ml_L_37, im_X8_powers, sl_X8_powers⟩ hx (show vwCl[8]? = some (RX8, TX8, _) from rfl) rfl rfl (Nat.le_of_ble_eq_true rfl) ⟨(Nat.le_refl _), (Nat.le_refl _)⟩ ⟨by show 0 + nc ≤ nc; omega, by show 0 + ns ≤ ns; omega⟩ (fun Y h2 hp => ?_) (fun r0 h2 hp => ?_)
  · rcases hX Y h2 hp with ⟨rfl, hpp⟩
    · exact gt_catch [] ⟨0, 8, 11, 27⟩ [] rfl (by decide) (by decide) (fun _ z => absurd z List.not_mem_nil) cl_L_27 ⟨rfl, by decide +kernel⟩ (fun qx => gr_astore_n dL_powers_11 (by decide) rfl (gr_iconst (v := nI 1) dL_powers_12 rfl (gr_X (gr_ireturn dL_powers_13 rfl hz1 hz2 hpp))))
  · obtain ⟨v, rfl, hv1, hv2⟩ := hok r0 h2 hp
    refine gr_i2l dL_powers_6 rfl ?_
    refine gr_lastore dL_powers_7 hv1 (by decide) (by decide) ?_
    refine gr_goto 14 dL_powers_8 (by decide) ?_
    refine gr_iconst (v := nI 0) dL_powers_14 rfl ?_
    exact gr_X (gr_ireturn dL_powers_15 rfl hz1 hz2 hv2)

abbrev hh_base : List (Nat × Nat × Nat × Nat) := [(0, 9, 12, 27)]
abbrev mL_base : ga_M := (yL_base, cL_base, 4, (some .int), tableOf hh_base)
set_option maxHeartbeats 4000000 in
set_option maxRecDepth 100000 in
theorem h_base (l : Launch) (E : ga_E) (d : Nat) (H : ga_H) (x q : Nat) (w : Nat → Int64) (fs : List Value) (p0 : Int32) (nc ns : Nat) (Post : Option Value → ga_H → Prop) (PX : String → ga_H → Prop) (PP : Option Value → ga_H → Prop) (hx : H x = some (ga_o 8 fs)) (hM : ga_OkX l E d mX8_base [.ref x, .int p0] H nc ns Post PX) (hok : ∀ r h', Post r h' → ∃ v, r = some (.int v) ∧ h' q = some (ga_j E 1 w) ∧ PP (some (.int (nI 0))) (ga_up h' q (ga_j E 1 (vp_updL w 0 (v.toInt64))))) (hX : ∀ Y h', PX Y h' → (Y = nmS ∧ PP (some (.int (nI 1))) h')) : ga_OkW l E (d + 1) mL_base hh_base [.ref x, .int p0, .ref q] H nc ns PP := by
  refine ga_OkW.of 1 _ (by decide) rfl (Nat.le_of_ble_eq_true rfl) rfl ?_
  have hz1 : 0 + nc ≤ nc := by omega
  have hz2 : 0 + ns ≤ ns := by omega
  refine gr_aload_n dL_base_0 rfl ?_
  refine gr_iconst (v := nI 0) dL_base_1 rfl ?_
  refine gr_aload_n dL_base_2 rfl ?_
  refine gr_iload_n dL_base_3 rfl ?_
  refine gr_callVX dL_base_4 hM ysX8_base ⟨ml_L_40, im_X8_base, sl_X8_base⟩ hx (show vwCl[8]? = some (RX8, TX8, _) from rfl) rfl rfl (Nat.le_of_ble_eq_true rfl) ⟨(Nat.le_refl _), (Nat.le_refl _)⟩ ⟨by show 0 + nc ≤ nc; omega, by show 0 + ns ≤ ns; omega⟩ (fun Y h2 hp => ?_) (fun r0 h2 hp => ?_)
  · rcases hX Y h2 hp with ⟨rfl, hpp⟩
    · exact gt_catch [] ⟨0, 9, 12, 27⟩ [] rfl (by decide) (by decide) (fun _ z => absurd z List.not_mem_nil) cl_L_27 ⟨rfl, by decide +kernel⟩ (fun qx => gr_astore_n dL_base_12 (by decide) rfl (gr_iconst (v := nI 1) dL_base_13 rfl (gr_X (gr_ireturn dL_base_14 rfl hz1 hz2 hpp))))
  · obtain ⟨v, rfl, hv1, hv2⟩ := hok r0 h2 hp
    refine gr_i2l dL_base_7 rfl ?_
    refine gr_lastore dL_base_8 hv1 (by decide) (by decide) ?_
    refine gr_goto 15 dL_base_9 (by decide) ?_
    refine gr_iconst (v := nI 0) dL_base_15 rfl ?_
    exact gr_X (gr_ireturn dL_base_16 rfl hz1 hz2 hv2)

abbrev hh_many : List (Nat × Nat × Nat × Nat) := [(0, 9, 12, 27)]
abbrev mL_many : ga_M := (yL_many, cL_many, 4, (some .int), tableOf hh_many)
set_option maxHeartbeats 4000000 in
set_option maxRecDepth 100000 in
theorem h_many (l : Launch) (E : ga_E) (d : Nat) (H : ga_H) (x q : Nat) (w : Nat → Int64) (fs : List Value) (p0 : Int32) (nc ns : Nat) (Post : Option Value → ga_H → Prop) (PX : String → ga_H → Prop) (PP : Option Value → ga_H → Prop) (hx : H x = some (ga_o 8 fs)) (hM : ga_OkX l E d mX8_many [.ref x, .int p0] H nc ns Post PX) (hok : ∀ r h', Post r h' → ∃ v, r = some (.int v) ∧ h' q = some (ga_j E 1 w) ∧ PP (some (.int (nI 0))) (ga_up h' q (ga_j E 1 (vp_updL w 0 (v.toInt64))))) (hX : ∀ Y h', PX Y h' → (Y = nmS ∧ PP (some (.int (nI 1))) h')) : ga_OkW l E (d + 1) mL_many hh_many [.ref x, .int p0, .ref q] H nc ns PP := by
  refine ga_OkW.of 1 _ (by decide) rfl (Nat.le_of_ble_eq_true rfl) rfl ?_
  have hz1 : 0 + nc ≤ nc := by omega
  have hz2 : 0 + ns ≤ ns := by omega
  refine gr_aload_n dL_many_0 rfl ?_
  refine gr_iconst (v := nI 0) dL_many_1 rfl ?_
  refine gr_aload_n dL_many_2 rfl ?_
  refine gr_iload_n dL_many_3 rfl ?_
  refine gr_callVX dL_many_4 hM ysX8_many ⟨ml_L_44, im_X8_many, sl_X8_many⟩ hx (show vwCl[8]? = some (RX8, TX8, _) from rfl) rfl rfl (Nat.le_of_ble_eq_true rfl) ⟨(Nat.le_refl _), (Nat.le_refl _)⟩ ⟨by show 0 + nc ≤ nc; omega, by show 0 + ns ≤ ns; omega⟩ (fun Y h2 hp => ?_) (fun r0 h2 hp => ?_)
  · rcases hX Y h2 hp with ⟨rfl, hpp⟩
    · exact gt_catch [] ⟨0, 9, 12, 27⟩ [] rfl (by decide) (by decide) (fun _ z => absurd z List.not_mem_nil) cl_L_27 ⟨rfl, by decide +kernel⟩ (fun qx => gr_astore_n dL_many_12 (by decide) rfl (gr_iconst (v := nI 1) dL_many_13 rfl (gr_X (gr_ireturn dL_many_14 rfl hz1 hz2 hpp))))
  · obtain ⟨v, rfl, hv1, hv2⟩ := hok r0 h2 hp
    refine gr_i2l dL_many_7 rfl ?_
    refine gr_lastore dL_many_8 hv1 (by decide) (by decide) ?_
    refine gr_goto 15 dL_many_9 (by decide) ?_
    refine gr_iconst (v := nI 0) dL_many_15 rfl ?_
    exact gr_X (gr_ireturn dL_many_16 rfl hz1 hz2 hv2)

abbrev hh_times : List (Nat × Nat × Nat × Nat) := [(0, 12, 15, 27), (0, 12, 19, 15)]
abbrev mL_times : ga_M := (yL_times, cL_times, 6, (some .int), tableOf hh_times)
set_option maxHeartbeats 4000000 in
set_option maxRecDepth 100000 in
theorem h_times (l : Launch) (E : ga_E) (d : Nat) (H : ga_H) (x q : Nat) (w : Nat → Int64) (fs : List Value) (p0 : Int32) (p1 : Int32) (p2 : Int32) (nc ns : Nat) (Post : Option Value → ga_H → Prop) (PX : String → ga_H → Prop) (PP : Option Value → ga_H → Prop) (hx : H x = some (ga_o 8 fs)) (hM : ga_OkX l E d mX8_times [.ref x, .int p0, .int p1, .int p2] H nc ns Post PX) (hok : ∀ r h', Post r h' → ∃ v, r = some (.int v) ∧ h' q = some (ga_j E 1 w) ∧ PP (some (.int (nI 0))) (ga_up h' q (ga_j E 1 (vp_updL w 0 (v.toInt64))))) (hX : ∀ Y h', PX Y h' → (Y = nmS ∧ PP (some (.int (nI 1))) h') ∨ (Y = nmI ∧ PP (some (.int (nI 2))) h')) : ga_OkW l E (d + 1) mL_times hh_times [.ref x, .int p0, .int p1, .int p2, .ref q] H nc ns PP := by
  refine ga_OkW.of 1 _ (by decide) rfl (Nat.le_of_ble_eq_true rfl) rfl ?_
  have hz1 : 0 + nc ≤ nc := by omega
  have hz2 : 0 + ns ≤ ns := by omega
  refine gr_aload dL_times_0 rfl ?_
  refine gr_iconst (v := nI 0) dL_times_2 rfl ?_
  refine gr_aload_n dL_times_3 rfl ?_
  refine gr_iload_n dL_times_4 rfl ?_
  refine gr_iload_n dL_times_5 rfl ?_
  refine gr_iload_n dL_times_6 rfl ?_
  refine gr_callVX dL_times_7 hM ysX8_times ⟨ml_L_47, im_X8_times, sl_X8_times⟩ hx (show vwCl[8]? = some (RX8, TX8, _) from rfl) rfl rfl (Nat.le_of_ble_eq_true rfl) ⟨(Nat.le_refl _), (Nat.le_refl _)⟩ ⟨by show 0 + nc ≤ nc; omega, by show 0 + ns ≤ ns; omega⟩ (fun Y h2 hp => ?_) (fun r0 h2 hp => ?_)
  · rcases hX Y h2 hp with ⟨rfl, hpp⟩ | ⟨rfl, hpp⟩
    · exact gt_catch [] ⟨0, 12, 15, 27⟩ [⟨0, 12, 19, 15⟩] rfl (by decide) (by decide) (fun _ z => absurd z List.not_mem_nil) cl_L_27 ⟨rfl, by decide +kernel⟩ (fun qx => gr_astore dL_times_15 (by decide) rfl (gr_iconst (v := nI 1) dL_times_17 rfl (gr_X (gr_ireturn dL_times_18 rfl hz1 hz2 hpp))))
    · exact gt_catch [⟨0, 12, 15, 27⟩] ⟨0, 12, 19, 15⟩ [] rfl (by decide) (by decide) (fun z hz => by
        simp only [List.mem_cons, List.not_mem_nil, or_false] at hz
        subst hz
        exact ⟨by decide, _, cl_L_27, by decide +kernel⟩) cl_L_15 ⟨rfl, by decide +kernel⟩ (fun qx => gr_astore dL_times_19 (by decide) rfl (gr_iconst (v := nI 2) dL_times_21 rfl (gr_X (gr_ireturn dL_times_22 rfl hz1 hz2 hpp))))
  · obtain ⟨v, rfl, hv1, hv2⟩ := hok r0 h2 hp
    refine gr_i2l dL_times_10 rfl ?_
    refine gr_lastore dL_times_11 hv1 (by decide) (by decide) ?_
    refine gr_goto 23 dL_times_12 (by decide) ?_
    refine gr_iconst (v := nI 0) dL_times_23 rfl ?_
    exact gr_X (gr_ireturn dL_times_24 rfl hz1 hz2 hv2)

abbrev hh_value : List (Nat × Nat × Nat × Nat) := [(0, 9, 12, 15)]
abbrev mL_value : ga_M := (yL_value, cL_value, 4, (some .int), tableOf hh_value)
set_option maxHeartbeats 4000000 in
set_option maxRecDepth 100000 in
theorem h_value (l : Launch) (E : ga_E) (d : Nat) (H : ga_H) (x q : Nat) (w : Nat → Int64) (fs : List Value) (p0 : Int32) (nc ns : Nat) (Post : Option Value → ga_H → Prop) (PX : String → ga_H → Prop) (PP : Option Value → ga_H → Prop) (hx : H x = some (ga_o 8 fs)) (hM : ga_OkX l E d mX8_value [.ref x, .int p0] H nc ns Post PX) (hok : ∀ r h', Post r h' → ∃ v, r = some (.int v) ∧ h' q = some (ga_j E 1 w) ∧ PP (some (.int (nI 0))) (ga_up h' q (ga_j E 1 (vp_updL w 0 (v.toInt64))))) (hX : ∀ Y h', PX Y h' → (Y = nmI ∧ PP (some (.int (nI 1))) h')) : ga_OkW l E (d + 1) mL_value hh_value [.ref x, .int p0, .ref q] H nc ns PP := by
  refine ga_OkW.of 1 _ (by decide) rfl (Nat.le_of_ble_eq_true rfl) rfl ?_
  have hz1 : 0 + nc ≤ nc := by omega
  have hz2 : 0 + ns ≤ ns := by omega
  refine gr_aload_n dL_value_0 rfl ?_
  refine gr_iconst (v := nI 0) dL_value_1 rfl ?_
  refine gr_aload_n dL_value_2 rfl ?_
  refine gr_iload_n dL_value_3 rfl ?_
  refine gr_callVX dL_value_4 hM ysX8_value ⟨ml_L_51, im_X8_value, sl_X8_value⟩ hx (show vwCl[8]? = some (RX8, TX8, _) from rfl) rfl rfl (Nat.le_of_ble_eq_true rfl) ⟨(Nat.le_refl _), (Nat.le_refl _)⟩ ⟨by show 0 + nc ≤ nc; omega, by show 0 + ns ≤ ns; omega⟩ (fun Y h2 hp => ?_) (fun r0 h2 hp => ?_)
  · rcases hX Y h2 hp with ⟨rfl, hpp⟩
    · exact gt_catch [] ⟨0, 9, 12, 15⟩ [] rfl (by decide) (by decide) (fun _ z => absurd z List.not_mem_nil) cl_L_15 ⟨rfl, by decide +kernel⟩ (fun qx => gr_astore_n dL_value_12 (by decide) rfl (gr_iconst (v := nI 1) dL_value_13 rfl (gr_X (gr_ireturn dL_value_14 rfl hz1 hz2 hpp))))
  · obtain ⟨v, rfl, hv1, hv2⟩ := hok r0 h2 hp
    refine gr_i2l dL_value_7 rfl ?_
    refine gr_lastore dL_value_8 hv1 (by decide) (by decide) ?_
    refine gr_goto 15 dL_value_9 (by decide) ?_
    refine gr_iconst (v := nI 0) dL_value_15 rfl ?_
    exact gr_X (gr_ireturn dL_value_16 rfl hz1 hz2 hv2)

abbrev hh_end : List (Nat × Nat × Nat × Nat) := [(0, 9, 12, 15)]
abbrev mL_end : ga_M := (yL_end, cL_end, 4, (some .int), tableOf hh_end)
set_option maxHeartbeats 4000000 in
set_option maxRecDepth 100000 in
theorem h_end (l : Launch) (E : ga_E) (d : Nat) (H : ga_H) (x q : Nat) (w : Nat → Int64) (fs : List Value) (p0 : Int32) (nc ns : Nat) (Post : Option Value → ga_H → Prop) (PX : String → ga_H → Prop) (PP : Option Value → ga_H → Prop) (hx : H x = some (ga_o 8 fs)) (hM : ga_OkX l E d mX8_end [.ref x, .int p0] H nc ns Post PX) (hok : ∀ r h', Post r h' → ∃ v, r = some (.int v) ∧ h' q = some (ga_j E 1 w) ∧ PP (some (.int (nI 0))) (ga_up h' q (ga_j E 1 (vp_updL w 0 (v.toInt64))))) (hX : ∀ Y h', PX Y h' → (Y = nmI ∧ PP (some (.int (nI 1))) h')) : ga_OkW l E (d + 1) mL_end hh_end [.ref x, .int p0, .ref q] H nc ns PP := by
  refine ga_OkW.of 1 _ (by decide) rfl (Nat.le_of_ble_eq_true rfl) rfl ?_
  have hz1 : 0 + nc ≤ nc := by omega
  have hz2 : 0 + ns ≤ ns := by omega
  refine gr_aload_n dL_end_0 rfl ?_
  refine gr_iconst (v := nI 0) dL_end_1 rfl ?_
  refine gr_aload_n dL_end_2 rfl ?_
  refine gr_iload_n dL_end_3 rfl ?_
  refine gr_callVX dL_end_4 hM ysX8_end ⟨ml_L_54, im_X8_end, sl_X8_end⟩ hx (show vwCl[8]? = some (RX8, TX8, _) from rfl) rfl rfl (Nat.le_of_ble_eq_true rfl) ⟨(Nat.le_refl _), (Nat.le_refl _)⟩ ⟨by show 0 + nc ≤ nc; omega, by show 0 + ns ≤ ns; omega⟩ (fun Y h2 hp => ?_) (fun r0 h2 hp => ?_)
  · rcases hX Y h2 hp with ⟨rfl, hpp⟩
    · exact gt_catch [] ⟨0, 9, 12, 15⟩ [] rfl (by decide) (by decide) (fun _ z => absurd z List.not_mem_nil) cl_L_15 ⟨rfl, by decide +kernel⟩ (fun qx => gr_astore_n dL_end_12 (by decide) rfl (gr_iconst (v := nI 1) dL_end_13 rfl (gr_X (gr_ireturn dL_end_14 rfl hz1 hz2 hpp))))
  · obtain ⟨v, rfl, hv1, hv2⟩ := hok r0 h2 hp
    refine gr_i2l dL_end_7 rfl ?_
    refine gr_lastore dL_end_8 hv1 (by decide) (by decide) ?_
    refine gr_goto 15 dL_end_9 (by decide) ?_
    refine gr_iconst (v := nI 0) dL_end_15 rfl ?_
    exact gr_X (gr_ireturn dL_end_16 rfl hz1 hz2 hv2)

abbrev hh_rest : List (Nat × Nat × Nat × Nat) := [(0, 9, 12, 15)]
abbrev mL_rest : ga_M := (yL_rest, cL_rest, 4, (some .int), tableOf hh_rest)
set_option maxHeartbeats 4000000 in
set_option maxRecDepth 100000 in
theorem h_rest (l : Launch) (E : ga_E) (d : Nat) (H : ga_H) (x q : Nat) (w : Nat → Int64) (fs : List Value) (p0 : Int32) (nc ns : Nat) (Post : Option Value → ga_H → Prop) (PX : String → ga_H → Prop) (PP : Option Value → ga_H → Prop) (hx : H x = some (ga_o 8 fs)) (hM : ga_OkX l E d mX8_rest [.ref x, .int p0] H nc ns Post PX) (hok : ∀ r h', Post r h' → ∃ v, r = some (.int v) ∧ h' q = some (ga_j E 1 w) ∧ PP (some (.int (nI 0))) (ga_up h' q (ga_j E 1 (vp_updL w 0 (v.toInt64))))) (hX : ∀ Y h', PX Y h' → (Y = nmI ∧ PP (some (.int (nI 1))) h')) : ga_OkW l E (d + 1) mL_rest hh_rest [.ref x, .int p0, .ref q] H nc ns PP := by
  refine ga_OkW.of 1 _ (by decide) rfl (Nat.le_of_ble_eq_true rfl) rfl ?_
  have hz1 : 0 + nc ≤ nc := by omega
  have hz2 : 0 + ns ≤ ns := by omega
  refine gr_aload_n dL_rest_0 rfl ?_
  refine gr_iconst (v := nI 0) dL_rest_1 rfl ?_
  refine gr_aload_n dL_rest_2 rfl ?_
  refine gr_iload_n dL_rest_3 rfl ?_
  refine gr_callVX dL_rest_4 hM ysX8_rest ⟨ml_L_57, im_X8_rest, sl_X8_rest⟩ hx (show vwCl[8]? = some (RX8, TX8, _) from rfl) rfl rfl (Nat.le_of_ble_eq_true rfl) ⟨(Nat.le_refl _), (Nat.le_refl _)⟩ ⟨by show 0 + nc ≤ nc; omega, by show 0 + ns ≤ ns; omega⟩ (fun Y h2 hp => ?_) (fun r0 h2 hp => ?_)
  · rcases hX Y h2 hp with ⟨rfl, hpp⟩
    · exact gt_catch [] ⟨0, 9, 12, 15⟩ [] rfl (by decide) (by decide) (fun _ z => absurd z List.not_mem_nil) cl_L_15 ⟨rfl, by decide +kernel⟩ (fun qx => gr_astore_n dL_rest_12 (by decide) rfl (gr_iconst (v := nI 1) dL_rest_13 rfl (gr_X (gr_ireturn dL_rest_14 rfl hz1 hz2 hpp))))
  · obtain ⟨v, rfl, hv1, hv2⟩ := hok r0 h2 hp
    refine gr_i2l dL_rest_7 rfl ?_
    refine gr_lastore dL_rest_8 hv1 (by decide) (by decide) ?_
    refine gr_goto 15 dL_rest_9 (by decide) ?_
    refine gr_iconst (v := nI 0) dL_rest_15 rfl ?_
    exact gr_X (gr_ireturn dL_rest_16 rfl hz1 hz2 hv2)

abbrev hh_put : List (Nat × Nat × Nat × Nat) := [(0, 17, 20, 15)]
abbrev mL_put : ga_M := (yL_put, cL_put, 5, (some .int), tableOf hh_put)
set_option maxHeartbeats 4000000 in
set_option maxRecDepth 100000 in
theorem h_put (l : Launch) (E : ga_E) (d : Nat) (H : ga_H) (x q : Nat) (w : Nat → Int64) (fs : List Value) (p0 : Int32) (p1 : Int32) (nc ns : Nat) (Post : Option Value → ga_H → Prop) (PX : String → ga_H → Prop) (PP : Option Value → ga_H → Prop) (hx : H x = some (ga_o 8 fs)) (hM : ga_OkX l E d mX8_put [.ref x, .int p0, .int p1] H nc ns Post PX) (hok : ∀ r h', Post r h' → ∃ v, r = some (.int v) ∧ h' q = some (ga_j E 1 w) ∧ PP (some (.int (nI 0))) (ga_up h' q (ga_j E 1 (vp_updL w 0 (zJ v))))) (hX : ∀ Y h', PX Y h' → (Y = nmI ∧ PP (some (.int (nI 1))) h')) : ga_OkW l E (d + 1) mL_put hh_put [.ref x, .int p0, .int p1, .ref q] H nc ns PP := by
  refine ga_OkW.of 1 _ (by decide) rfl (Nat.le_of_ble_eq_true rfl) rfl ?_
  have hz1 : 0 + nc ≤ nc := by omega
  have hz2 : 0 + ns ≤ ns := by omega
  refine gr_aload_n dL_put_0 rfl ?_
  refine gr_iconst (v := nI 0) dL_put_1 rfl ?_
  refine gr_aload_n dL_put_2 rfl ?_
  refine gr_iload_n dL_put_3 rfl ?_
  refine gr_iload_n dL_put_4 rfl ?_
  refine gr_callVX dL_put_5 hM ysX8_put ⟨ml_L_60, im_X8_put, sl_X8_put⟩ hx (show vwCl[8]? = some (RX8, TX8, _) from rfl) rfl rfl (Nat.le_of_ble_eq_true rfl) ⟨(Nat.le_refl _), (Nat.le_refl _)⟩ ⟨by show 0 + nc ≤ nc; omega, by show 0 + ns ≤ ns; omega⟩ (fun Y h2 hp => ?_) (fun r0 h2 hp => ?_)
  · rcases hX Y h2 hp with ⟨rfl, hpp⟩
    · exact gt_catch [] ⟨0, 17, 20, 15⟩ [] rfl (by decide) (by decide) (fun _ z => absurd z List.not_mem_nil) cl_L_15 ⟨rfl, by decide +kernel⟩ (fun qx => gr_astore dL_put_20 (by decide) rfl (gr_iconst (v := nI 1) dL_put_22 rfl (gr_X (gr_ireturn dL_put_23 rfl hz1 hz2 hpp))))
  · obtain ⟨v, rfl, hv1, hv2⟩ := hok r0 h2 hp
    refine gr_ifeq 15 dL_put_8 (by decide) (fun c => ?_) (fun c => ?_)
    · refine gr_lconst (v := lN 0) dL_put_15 rfl ?_
      refine gr_lastore dL_put_16 hv1 (by decide) (by decide) ?_
      refine gr_goto 24 dL_put_17 (by decide) ?_
      refine gr_iconst (v := nI 0) dL_put_24 rfl ?_
      exact gr_X (gr_ireturn dL_put_25 rfl hz1 hz2 (by have e := hv2; unfold zJ at e; first | rwa [if_pos c] at e | rwa [if_neg c] at e))
    · refine gr_lconst (v := lN 1) dL_put_11 rfl ?_
      refine gr_goto 16 dL_put_12 (by decide) ?_
      refine gr_lastore dL_put_16 hv1 (by decide) (by decide) ?_
      refine gr_goto 24 dL_put_17 (by decide) ?_
      refine gr_iconst (v := nI 0) dL_put_24 rfl ?_
      exact gr_X (gr_ireturn dL_put_25 rfl hz1 hz2 (by have e := hv2; unfold zJ at e; first | rwa [if_pos c] at e | rwa [if_neg c] at e))
