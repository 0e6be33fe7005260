/-! Polynomials: products by a linear one, remainders -/
theorem dn_stepS (q : Nat) : nI (q + 1) + Int32.ofInt (-1) = nI q := by rw [dn_step, dn_top]
def pmI (v : Nat → zp) (n : Nat) (c : zp) (p : Nat) : Nat → zp := fun j => if p < j ∧ j < n then v j * c + v (j - 1) else v j
theorem pmI_0 (v : Nat → zp) (n : Nat) (c : zp) : pmI v n c (n - 1) = v := by
  funext j; unfold pmI; rw [if_neg (by omega)]
theorem pmI_at {v : Nat → zp} {n p j : Nat} {c : zp} (h : j ≤ p) : pmI v n c p j = v j := by
  unfold pmI; rw [if_neg (by omega)]
theorem pmI_up {v : Nat → zp} {n q : Nat} {c : zp} (h : q + 1 < n) : va_up (pmI v n c (q + 1)) (q + 1) (v (q + 1) * c + v q) = pmI v n c q := by
  funext j; unfold va_up pmI
  by_cases e : j = q + 1
  · subst e; rw [if_pos rfl, if_pos (by omega)]; rfl
  · by_cases h2 : q + 1 < j ∧ j < n
    · rw [if_neg e, if_pos h2, if_pos (by omega)]
    · rw [if_neg e, if_neg h2, if_neg (by omega)]
theorem pmI_end {v : Nat → zp} {n : Nat} {c : zp} (h : 0 < n) : va_up (pmI v n c 0) 0 (v 0 * c) = pmul v n c := by
  funext j; unfold va_up pmI pmul
  by_cases e : j = 0
  · subst e; rw [if_pos rfl, if_pos h, if_pos rfl]
  · by_cases h2 : j < n
    · rw [if_neg e, if_pos ⟨by omega, h2⟩, if_pos h2, if_neg e]
    · rw [if_neg e, if_neg (by omega), if_neg h2]
theorem zmad (a c b : zp) : zo (a.val * c.val + b.val) = a * c + b := by rw [zo_add, zo_mul, zo_self, zo_self, zo_self]

set_option maxHeartbeats 4000000 in
set_option maxRecDepth 100000 in
theorem c_mulLin_loop (l : Launch) (E : ga_E) (d : Nat) (h : ga_H) (a n : Nat) (v : Nat → zp) (c : zp) (h0 : 0 < n) (hn : n < 2 ^ 31) : ∀ p : Nat, p < n → ga_G l E mX4_multiplyByLinear (ga_Rm d 0 0) (ga_Z E (fun r h' => h' = ga_up h a (ga_f E n (pmul v n c)) ∧ r = none) 0 0) 5 [some (.ref a), some (.int (nI c.val)), some (.int (nI p))] [] (ga_up h a (ga_f E n (pmI v n c p))) 0 0 := by
  intro p
  induction p with
  | zero =>
    intro _
    refine gr_iload_n dX4_multiplyByLinear_5 rfl (gr_iconst (v := nI 1) dX4_multiplyByLinear_6 rfl ?_)
    refine gr_icmpltN 34 dX4_multiplyByLinear_7 (by decide) (by decide) (by decide) (fun _ => ?_) (fun z => absurd z (by decide))
    refine gr_aload_n dX4_multiplyByLinear_34 rfl ?_
    refine gr_alen_i dX4_multiplyByLinear_35 ga_up_eq ?_
    refine gr_ifleN 51 dX4_multiplyByLinear_36 (by decide) (by omega) (fun c_36 => absurd c_36 (by omega)) (fun c_36 => ?_) --one
    refine gr_aload_n dX4_multiplyByLinear_39 rfl ?_
    refine gr_iconst (v := nI 0) dX4_multiplyByLinear_40 rfl ?_
    refine gr_aload_n dX4_multiplyByLinear_41 rfl ?_
    refine gr_iconst (v := nI 0) dX4_multiplyByLinear_42 rfl ?_
    refine gr_ialoadU dX4_multiplyByLinear_43 (by omega) hn ?_
    rw [pmI_at (Nat.le_refl 0)]
    refine gr_iload_n dX4_multiplyByLinear_44 rfl ?_
    refine gr_mulP dX4_multiplyByLinear_45 dX4_multiplyByLinear_46 dX4_multiplyByLinear_49 ?_
    refine gr_iastoreU dX4_multiplyByLinear_50 (by omega) hn ?_
    rw [pmI_end h0]
    exact gr_return dX4_multiplyByLinear_51 rfl (Nat.le_refl _) (Nat.le_refl _) ⟨rfl, rfl⟩
  | succ q ih =>
    intro hq
    refine gr_iload_n dX4_multiplyByLinear_5 rfl (gr_iconst (v := nI 1) dX4_multiplyByLinear_6 rfl ?_)
    refine gr_icmpltN 34 dX4_multiplyByLinear_7 (by decide) (by omega) (by decide) (fun z => absurd z (by omega)) (fun _ => ?_)
    refine gr_aload_n dX4_multiplyByLinear_10 rfl ?_
    refine gr_iload_n dX4_multiplyByLinear_11 rfl ?_
    refine gr_aload_n dX4_multiplyByLinear_12 rfl ?_
    refine gr_iload_n dX4_multiplyByLinear_13 rfl ?_
    refine gr_ialoadU dX4_multiplyByLinear_14 (by omega) hn ?_
    rw [pmI_at (Nat.le_refl _)]
    refine gr_iload_n dX4_multiplyByLinear_15 rfl ?_
    refine gr_imulN dX4_multiplyByLinear_16 ?_
    refine gr_aload_n dX4_multiplyByLinear_17 rfl ?_
    refine gr_iload_n dX4_multiplyByLinear_18 rfl ?_
    refine gr_iconst (v := nI 1) dX4_multiplyByLinear_19 rfl ?_
    refine gr_isubN dX4_multiplyByLinear_20 (by omega) ?_
    rw [Nat.add_sub_cancel]
    refine gr_ialoadU dX4_multiplyByLinear_21 (by omega) hn ?_
    rw [pmI_at (by omega)]
    refine gr_iaddN dX4_multiplyByLinear_22 ?_
    refine gr_remP dX4_multiplyByLinear_23 dX4_multiplyByLinear_26 (by have := zmul_lt (v (q + 1)) c; have := zl (v q); omega) (zmad _ _ _) ?_
    refine gr_iastoreU dX4_multiplyByLinear_27 (by omega) hn ?_
    rw [pmI_up (by omega)]
    refine gr_iinc (v := nI q) dX4_multiplyByLinear_28 rfl (dn_stepS q) (by decide) rfl ?_
    refine gr_goto 5 dX4_multiplyByLinear_31 (by decide) ?_
    exact ih (by omega)

set_option maxHeartbeats 4000000 in
set_option maxRecDepth 100000 in
theorem c_mulLin (l : Launch) (E : ga_E) (d : Nat) (h : ga_H) (a n : Nat) (v : Nat → zp) (c : zp) (ha : h a = some (ga_f E n v)) (h0 : 0 < n) (hn : n < 2 ^ 31) : ga_Ok l E d mX4_multiplyByLinear [.ref a, .int (nI c.val)] h 0 0 (fun r h' => h' = ga_up h a (ga_f E n (pmul v n c)) ∧ r = none) := by
  refine ga_Ok.of 1 _ (by decide) rfl (Nat.le_of_ble_eq_true rfl) rfl ?_
  refine gr_aload_n dX4_multiplyByLinear_0 rfl ?_
  refine gr_alen_i dX4_multiplyByLinear_1 ha ?_
  refine gr_iconst (v := nI 1) dX4_multiplyByLinear_2 rfl ?_
  refine gr_isubN dX4_multiplyByLinear_3 (by omega) ?_
  refine gr_istore_n dX4_multiplyByLinear_4 (by decide) rfl ?_
  refine gr_h (show h = ga_up h a (ga_f E n (pmI v n c (n - 1))) by rw [pmI_0, ga_up_self ha]) ?_
  exact c_mulLin_loop l E d h a n v c h0 hn (n - 1) (by omega)

def psI (v w : Nat → zp) (k p i : Nat) : Nat → zp := fun j => if p + 1 ≤ j + k ∧ j + k < p + 1 + i then v j - v p * w (j + k - (p + 1)) else v j
theorem psI_0 (v w : Nat → zp) (k p : Nat) : psI v w k p 0 = v := by
  funext j; unfold psI; rw [if_neg (by omega)]
theorem psI_at {v w : Nat → zp} {k p i j : Nat} (h : p + 1 + i ≤ j + k) : psI v w k p i j = v j := by
  unfold psI; rw [if_neg (by omega)]
theorem psI_up {v w : Nat → zp} {t p i : Nat} (ht : t ≤ p) : va_up (psI v w (t + 1) p i) (p - t + i) (v (p - t + i) - v p * w i) = psI v w (t + 1) p (i + 1) := by
  funext j; unfold va_up psI
  by_cases e : j = p - t + i
  · subst e
    rw [if_pos rfl, if_pos (by omega), show p - t + i + (t + 1) - (p + 1) = i by omega]
  · by_cases h2 : p + 1 ≤ j + (t + 1) ∧ j + (t + 1) < p + 1 + i
    · rw [if_neg e, if_pos h2, if_pos (by omega)]
    · rw [if_neg e, if_neg h2, if_neg (by omega)]
theorem psI_end (v w : Nat → zp) (t p : Nat) : psI v w (t + 1) p (t + 1) = pstep v w (t + 1) p := by
  funext j; unfold psI pstep
  by_cases h : p + 1 ≤ j + (t + 1) ∧ j ≤ p
  · rw [if_pos (by omega), if_pos h]
  · rw [if_neg (by omega), if_neg h]
theorem pstep_0 {v w : Nat → zp} {k p : Nat} (h : v p = 0) : pstep v w k p = v := by
  funext j; unfold pstep
  split
  · rw [h]; grind
  · rfl

set_option maxHeartbeats 4000000 in
set_option maxRecDepth 100000 in
theorem c_reduce_inner (l : Launch) (E : ga_E) (d : Nat) (h : ga_H) (a b n m t : Nat) (w : Nat → zp) (res : Nat → zp) (hab : b ≠ a) (hb : h b = some (ga_f E m w)) (hn : n < 2 ^ 31) (hm : m < 2 ^ 31) (htm : t < m) (v : Nat → zp) (p : Nat) (hp : p < n) (htp : t ≤ p) (k : ∀ x5 x6 : Option Value, ga_G l E mX4_reduceBy (ga_Rm (d + 1) 0 0) (ga_Z E (fun r h' => h' = ga_up h a (ga_f E n res) ∧ r = none) 0 0) 73 [some (.ref a), some (.ref b), some (.int (nI t)), some (.int (nI p)), some (.int (nI (v p).val)), x5, x6] [] (ga_up h a (ga_f E n (pstep v w (t + 1) p))) 0 0) : ∀ (g i : Nat) (x6 : Option Value), i + g = t + 1 → ga_G l E mX4_reduceBy (ga_Rm (d + 1) 0 0) (ga_Z E (fun r h' => h' = ga_up h a (ga_f E n res) ∧ r = none) 0 0) 36 [some (.ref a), some (.ref b), some (.int (nI t)), some (.int (nI p)), some (.int (nI (v p).val)), some (.int (nI i)), x6] [] (ga_up h a (ga_f E n (psI v w (t + 1) p i))) 0 0 := by
  intro g
  induction g with
  | zero =>
    intro i x6 hi
    refine gr_iload dX4_reduceBy_36 rfl (gr_iload_n dX4_reduceBy_38 rfl ?_)
    refine gr_icmpgtN 73 dX4_reduceBy_39 (by decide) (by omega) (by omega) (fun _ => ?_) (fun z => absurd z (by omega))
    rw [show i = t + 1 by omega, psI_end]
    exact k _ _
  | succ g ih =>
    intro i x6 hi
    refine gr_iload dX4_reduceBy_36 rfl (gr_iload_n dX4_reduceBy_38 rfl ?_)
    refine gr_icmpgtN 73 dX4_reduceBy_39 (by decide) (by omega) (by omega) (fun z => absurd z (by omega)) (fun _ => ?_)
    refine gr_iload_n dX4_reduceBy_42 rfl ?_
    refine gr_iload_n dX4_reduceBy_43 rfl ?_
    refine gr_isubN dX4_reduceBy_44 (by omega) ?_
    refine gr_iload dX4_reduceBy_45 rfl ?_
    refine gr_iaddN dX4_reduceBy_47 ?_
    refine gr_istore dX4_reduceBy_48 (by decide) rfl ?_
    refine gr_aload_n dX4_reduceBy_50 rfl ?_
    refine gr_iload dX4_reduceBy_51 rfl ?_
    refine gr_aload_n dX4_reduceBy_53 rfl ?_
    refine gr_iload dX4_reduceBy_54 rfl ?_
    refine gr_ialoadU dX4_reduceBy_56 (by omega) hn ?_
    rw [psI_at (by omega)]
    refine gr_iload dX4_reduceBy_57 rfl ?_
    refine gr_aload_n dX4_reduceBy_59 rfl ?_
    refine gr_iload dX4_reduceBy_60 rfl ?_
    refine gr_ialoadF dX4_reduceBy_62 (by rw [ga_up_ne hab]; exact hb) (by omega) hm ?_
    refine gr_callS dX4_reduceBy_63 (c_less l E d _ (v (p - t + i)) (v p) (w i)) ysX3_less ⟨ml_X4_21, sm_X3_less⟩ rfl rfl (Nat.le_of_ble_eq_true rfl) ⟨(Nat.le_refl _), (Nat.le_refl _)⟩ ⟨(Nat.le_refl _), (Nat.le_refl _)⟩ (fun r h1 hp => ?_)
    obtain ⟨e1, rfl⟩ := hp
    subst h1
    refine gr_iastoreU dX4_reduceBy_66 (by omega) hn ?_
    rw [psI_up (by omega)]
    refine gr_iinc (v := nI (_ + 1)) dX4_reduceBy_67 rfl (nI_1 _) (by decide) rfl ?_
    refine gr_goto 36 dX4_reduceBy_70 (by decide) ?_
    exact ih (i + 1) _ (by omega)

set_option maxHeartbeats 4000000 in
set_option maxRecDepth 100000 in
theorem c_reduce_outer (l : Launch) (E : ga_E) (d : Nat) (h : ga_H) (a b n m t : Nat) (w : Nat → zp) (res : Nat → zp) (hab : b ≠ a) (hb : h b = some (ga_f E m w)) (hn : n < 2 ^ 31) (hm : m < 2 ^ 31) (htm : t < m) : ∀ q : Nat, q ≤ n → ∀ (v : Nat → zp) (x4 x5 x6 : Option Value), prd w (t + 1) q v = res → ga_G l E mX4_reduceBy (ga_Rm (d + 1) 0 0) (ga_Z E (fun r h' => h' = ga_up h a (ga_f E n res) ∧ r = none) 0 0) 15 [some (.ref a), some (.ref b), some (.int (nI t)), some (.int (nI q - nI 1)), x4, x5, x6] [] (ga_up h a (ga_f E n v)) 0 0 := by
  intro q
  induction q with
  | zero =>
    intro _ v x4 x5 x6 hv
    refine gr_iload_n dX4_reduceBy_15 rfl (gr_iload_n dX4_reduceBy_16 rfl ?_)
    refine gr_icmplt 79 dX4_reduceBy_17 (by decide) (fun _ => ?_) (fun z => absurd (Int32.lt_of_lt_of_le ((dn_neg (by decide)).mpr rfl) (nI_pos' (by omega))) z)
    exact gr_return dX4_reduceBy_79 rfl (Nat.le_refl _) (Nat.le_refl _) ⟨by rw [← hv]; rfl, rfl⟩
  | succ p ih =>
    intro hp v x4 x5 x6 hv
    rw [dn_top]
    refine gr_iload_n dX4_reduceBy_15 rfl (gr_iload_n dX4_reduceBy_16 rfl ?_)
    refine gr_icmpltN 79 dX4_reduceBy_17 (by decide) (by omega) (by omega) (fun c_17 => ?_) (fun c_17 => ?_)
    · exact gr_return dX4_reduceBy_79 rfl (Nat.le_refl _) (Nat.le_refl _) ⟨by rw [← hv, show prd w (t + 1) (p + 1) v = v from if_pos (by omega)], rfl⟩
    · have hv : prd w (t + 1) p (pstep v w (t + 1) p) = res := by rw [← hv, show prd w (t + 1) (p + 1) v = prd w (t + 1) p (pstep v w (t + 1) p) from if_neg (by omega)]
      refine gr_aload_n dX4_reduceBy_20 rfl ?_
      refine gr_iload_n dX4_reduceBy_21 rfl ?_
      refine gr_ialoadU dX4_reduceBy_22 (by omega) hn ?_
      refine gr_istore dX4_reduceBy_23 (by decide) rfl ?_
      refine gr_iload dX4_reduceBy_25 rfl ?_
      refine gr_ifneN 33 dX4_reduceBy_27 (by decide) (by have := zl (v p); omega) (fun c_27 => ?_) (fun c_27 => ?_)
      · refine gr_iconst (v := nI 0) dX4_reduceBy_33 rfl ?_
        refine gr_istore dX4_reduceBy_34 (by decide) rfl ?_
        refine gr_h (show ga_up h a (ga_f E n v) = ga_up h a (ga_f E n (psI v w (t + 1) p 0)) by rw [psI_0]) ?_
        refine c_reduce_inner l E d h a b n m t w res hab hb hn hm htm v p (by omega) (by omega) (fun x5 x6 => ?_) (t + 1) 0 _ (by omega)
        refine gr_iinc (v := nI p - nI 1) dX4_reduceBy_73 rfl (dn_step p) (by decide) rfl ?_
        refine gr_goto 15 dX4_reduceBy_76 (by decide) ?_
        exact ih (by omega) _ _ _ _ hv
      · refine gr_goto 73 dX4_reduceBy_30 (by decide) ?_
        rw [pstep_0 (Fin.ext c_27)] at hv
        refine gr_iinc (v := nI p - nI 1) dX4_reduceBy_73 rfl (dn_step p) (by decide) rfl ?_
        refine gr_goto 15 dX4_reduceBy_76 (by decide) ?_
        exact ih (by omega) _ _ _ _ hv

def pred (v : Nat → zp) (n : Nat) (w : Nat → zp) (m : Nat) : Nat → zp := if pdeg w m = 0 then v else prd w (pdeg w m) n v

set_option maxHeartbeats 4000000 in
set_option maxRecDepth 100000 in
theorem c_reduceBy (l : Launch) (E : ga_E) (d : Nat) (h : ga_H) (a b n m : Nat) (v w : Nat → zp) (hab : b ≠ a) (ha : h a = some (ga_f E n v)) (hb : h b = some (ga_f E m w)) (hn : n < 2 ^ 31) (hm : m < 2 ^ 31) : ga_Ok l E (d + 1) mX4_reduceBy [.ref a, .ref b] h 0 0 (fun r h' => h' = ga_up h a (ga_f E n (pred v n w m)) ∧ r = none) := by
  refine ga_Ok.of 5 _ (by decide) rfl (Nat.le_of_ble_eq_true rfl) rfl ?_
  refine gr_aload_n dX4_reduceBy_0 rfl ?_
  refine gr_callS dX4_reduceBy_1 (c_degree l E d h b m w hb hm) ysX4_degree ⟨ml_X4_9, sm_X4_degree⟩ rfl rfl (Nat.le_of_ble_eq_true rfl) ⟨(Nat.le_refl _), (Nat.le_refl _)⟩ ⟨(Nat.le_refl _), (Nat.le_refl _)⟩ (fun r h1 hp => ?_)
  obtain ⟨e1, rfl⟩ := hp
  subst h1
  have hle := pdeg_le w m
  rcases hk : pdeg w m with _ | t
  · refine gr_istore_n dX4_reduceBy_4 (by decide) rfl ?_
    refine gr_iload_n dX4_reduceBy_5 rfl ?_
    refine gr_ifge 10 dX4_reduceBy_6 (by decide) (fun z => absurd ((dn_neg (by decide)).mpr rfl) (Int32.not_lt.mpr z)) (fun _ => ?_)
    exact gr_return dX4_reduceBy_9 rfl (Nat.le_refl _) (Nat.le_refl _) ⟨by unfold pred; rw [if_pos hk, ga_up_self ha], rfl⟩
  · rw [hk] at hle
    refine gr_top (congrArg Value.int (dn_top t)) ?_
    refine gr_istore_n dX4_reduceBy_4 (by decide) rfl ?_
    refine gr_iload_n dX4_reduceBy_5 rfl ?_
    refine gr_ifge 10 dX4_reduceBy_6 (by decide) (fun _ => ?_) (fun z => absurd (nI_pos' (by omega)) z)
    refine gr_aload_n dX4_reduceBy_10 rfl ?_
    refine gr_alen_i dX4_reduceBy_11 ha ?_
    refine gr_iconst (v := nI 1) dX4_reduceBy_12 rfl ?_
    refine gr_isub dX4_reduceBy_13 ?_
    refine gr_istore_n dX4_reduceBy_14 (by decide) rfl ?_
    refine gr_h (show h = ga_up h a (ga_f E n v) by rw [ga_up_self ha]) ?_
    exact c_reduce_outer l E d h a b n m t w _ hab hb hn hm (by omega) n (Nat.le_refl _) v _ _ _ (by unfold pred; rw [if_neg (by omega), hk])
