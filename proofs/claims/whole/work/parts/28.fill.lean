/-! Equation: its block; least, greatest, greatestDegree, empty; LinearSystem.fill -/
def eqC (E : ga_E) (B : Nat → Nat) (o : Nat) (F : Nat → Nat → zp) (S : Nat → zp) : Nat → va_E
  | 0 => ga_o 3 [.int (nI o), .ref (B 1), .ref (B 7)]
  | 1 => ga_ii E 5 (lsR B 5 2)
  | k + 2 => if k < 5 then ga_f E 7 (F k) else ga_f E 11 S
def eqAt (E : ga_E) (h : ga_H) (B : Nat → Nat) (o : Nat) (F : Nat → Nat → zp) (S : Nat → zp) : Prop := ∀ k, k < 8 → h (B k) = some (eqC E B o F S k)
section EQ
variable {E : ga_E} {h : ga_H} {B : Nat → Nat} {o : Nat} {F : Nat → Nat → zp} {S : Nat → zp}
theorem eq_0 (hB : eqAt E h B o F S) : h (B 0) = some (ga_o 3 [.int (nI o), .ref (B 1), .ref (B 7)]) := hB 0 (by decide)
theorem eq_1 (hB : eqAt E h B o F S) : h (B 1) = some (ga_ii E 5 (lsR B 5 2)) := hB 1 (by decide)
theorem eq_r (hB : eqAt E h B o F S) {i : Nat} (hi : i < 5) : h (B (2 + i)) = some (ga_f E 7 (F i)) := by
  have := hB (2 + i) (by omega)
  rw [this, Nat.add_comm]
  exact congrArg some (if_pos hi)
theorem eq_7 (hB : eqAt E h B o F S) : h (B 7) = some (ga_f E 11 S) := hB 7 (by decide)
theorem eq_R {i : Nat} (hi : i < 5) : lsR B 5 2 i = some (B (2 + i)) := if_pos hi
end EQ
def LeastS (F : Nat → Nat → zp) (o : Option Nat) : Prop := (o = none ∧ ∀ i, i < 5 → pdeg (F i) 7 = 0) ∨ ∃ i, o = some i ∧ i < 5 ∧ pdeg (F i) 7 ≠ 0 ∧ ∀ k, k < i → pdeg (F k) 7 = 0
def GreatS (F : Nat → Nat → zp) (o : Option Nat) : Prop := (o = none ∧ ∀ i, i < 5 → pdeg (F i) 7 = 0) ∨ ∃ i, o = some i ∧ i < 5 ∧ pdeg (F i) 7 ≠ 0 ∧ ∀ k, i < k → k < 5 → pdeg (F k) 7 = 0
def dmax (F : Nat → Nat → zp) : Nat → Nat
  | 0 => 0
  | n + 1 => max (dmax F n) (pdeg (F n) 7)
theorem dmax_le (F : Nat → Nat → zp) : ∀ n, dmax F n ≤ 7
  | 0 => Nat.zero_le _
  | n + 1 => Nat.max_le.mpr ⟨dmax_le F n, pdeg_le _ _⟩
theorem dn_max : ∀ a, a < 8 → ∀ b, b < 8 → (if nI a - nI 1 < nI b - nI 1 then nI b - nI 1 else nI a - nI 1) = nI (max a b) - nI 1 := by decide

set_option maxHeartbeats 4000000 in
set_option maxRecDepth 100000 in
theorem c_ls_loop (l : Launch) (E : ga_E) (d : Nat) (h : ga_H) (B : Nat → Nat) (o : Nat) (F : Nat → Nat → zp) (S : Nat → zp) (hB : eqAt E h B o F S) : ∀ (g i : Nat), i + g = 5 → (∀ j, j < i → pdeg (F j) 7 = 0) → ga_G l E mX1_leastShift (ga_Rm (d + 1) 0 0) (ga_Z E (fun r0 h' => h' = h ∧ ∃ q, r0 = some (.int (optI q)) ∧ LeastS F q) 0 0) 2 [some (.ref (B 0)), some (.int (nI i))] [] h 0 0 := by
  intro g
  induction g with
  | zero =>
    intro i hi hlt
    refine gr_iload_n dX1_leastShift_2 rfl (gr_iconst (v := nI 4) dX1_leastShift_3 rfl ?_)
    refine gr_icmpgtN 27 dX1_leastShift_4 (by decide) (by omega) (by decide) (fun _ => ?_) (fun z => absurd z (by omega))
    refine gr_iconst (v := -1) dX1_leastShift_27 (by decide) ?_
    exact gr_ireturn dX1_leastShift_28 rfl (Nat.le_refl _) (Nat.le_refl _) ⟨rfl, none, rfl, Or.inl ⟨rfl, fun j hj => hlt j (by omega)⟩⟩
  | succ g ih =>
    intro i hi hlt
    refine gr_iload_n dX1_leastShift_2 rfl (gr_iconst (v := nI 4) dX1_leastShift_3 rfl ?_)
    refine gr_icmpgtN 27 dX1_leastShift_4 (by decide) (by omega) (by decide) (fun z => absurd z (by omega)) (fun _ => ?_)
    refine gr_aload_n dX1_leastShift_7 rfl ?_
    refine gr_getf dX1_leastShift_8 cls_X1 1 (by decide) fl_X1_11 (eq_0 hB) rfl ?_
    refine gr_iload_n dX1_leastShift_11 rfl ?_
    refine gr_aaloadI dX1_leastShift_12 (eq_1 hB) (by omega) (by decide) (eq_R (by omega)) ?_
    refine gr_callS dX1_leastShift_13 (c_degree l E d h (B (2 + i)) 7 (F i) (eq_r hB (by omega)) (by decide)) ysX4_degree ⟨ml_X1_24, sm_X4_degree⟩ rfl rfl (Nat.le_of_ble_eq_true rfl) ⟨(Nat.le_refl _), (Nat.le_refl _)⟩ ⟨(Nat.le_refl _), (Nat.le_refl _)⟩ (fun r0 h1 hp9 => ?_)
    obtain ⟨e1, rfl⟩ := hp9
    subst h1
    have hle := pdeg_le (F i) 7
    refine gr_iflt 21 dX1_leastShift_16 (by decide) (fun c_16 => ?_) (fun c_16 => ?_)
    · refine gr_iinc (v := nI (_ + 1)) dX1_leastShift_21 rfl (nI_1 _) (by decide) rfl ?_
      refine gr_goto 2 dX1_leastShift_24 (by decide) ?_
      refine ih (i + 1) (by omega) (fun j hj => ?_)
      by_cases e : j = i
      · subst e; exact (dn_neg (by omega)).mp c_16
      · exact hlt j (by omega)
    · refine gr_iload_n dX1_leastShift_19 rfl ?_
      exact gr_ireturn dX1_leastShift_20 rfl (Nat.le_refl _) (Nat.le_refl _) ⟨rfl, some i, rfl, Or.inr ⟨i, rfl, by omega, fun z => c_16 ((dn_neg (by omega)).mpr z), hlt⟩⟩

set_option maxHeartbeats 4000000 in
set_option maxRecDepth 100000 in
theorem c_leastShift (l : Launch) (E : ga_E) (d : Nat) (h : ga_H) (B : Nat → Nat) (o : Nat) (F : Nat → Nat → zp) (S : Nat → zp) (hB : eqAt E h B o F S) : ga_Ok l E (d + 1) mX1_leastShift [.ref (B 0)] h 0 0 (fun r0 h' => h' = h ∧ ∃ q, r0 = some (.int (optI q)) ∧ LeastS F q) := by
  refine ga_Ok.of 1 _ (by decide) rfl (Nat.le_of_ble_eq_true rfl) rfl ?_
  refine gr_iconst (v := nI 0) dX1_leastShift_0 rfl (gr_istore_n dX1_leastShift_1 (by decide) rfl ?_)
  exact c_ls_loop l E d h B o F S hB 5 0 (by omega) (fun j hj => absurd hj (by omega))

set_option maxHeartbeats 4000000 in
set_option maxRecDepth 100000 in
theorem c_gs_loop (l : Launch) (E : ga_E) (d : Nat) (h : ga_H) (B : Nat → Nat) (o : Nat) (F : Nat → Nat → zp) (S : Nat → zp) (hB : eqAt E h B o F S) : ∀ (i : Nat), i ≤ 5 → (∀ j, i ≤ j → j < 5 → pdeg (F j) 7 = 0) → ga_G l E mX1_greatestShift (ga_Rm (d + 1) 0 0) (ga_Z E (fun r0 h' => h' = h ∧ ∃ q, r0 = some (.int (optI q)) ∧ GreatS F q) 0 0) 2 [some (.ref (B 0)), some (.int (nI i - nI 1))] [] h 0 0 := by
  intro i
  induction i with
  | zero =>
    intro _ hlt
    refine gr_iload_n dX1_greatestShift_2 rfl ?_
    refine gr_iflt 26 dX1_greatestShift_3 (by decide) (fun _ => ?_) (fun z => absurd ((dn_neg (by decide)).mpr rfl) z)
    refine gr_iconst (v := -1) dX1_greatestShift_26 (by decide) ?_
    exact gr_ireturn dX1_greatestShift_27 rfl (Nat.le_refl _) (Nat.le_refl _) ⟨rfl, none, rfl, Or.inl ⟨rfl, fun j hj => hlt j (by omega) hj⟩⟩
  | succ i ih =>
    intro hi hlt
    rw [dn_top]
    refine gr_iload_n dX1_greatestShift_2 rfl ?_
    refine gr_ifltN dX1_greatestShift_3 26 (by decide) (by omega) ?_
    refine gr_aload_n dX1_greatestShift_6 rfl ?_
    refine gr_getf dX1_greatestShift_7 cls_X1 1 (by decide) fl_X1_11 (eq_0 hB) rfl ?_
    refine gr_iload_n dX1_greatestShift_10 rfl ?_
    refine gr_aaloadI dX1_greatestShift_11 (eq_1 hB) (by omega) (by decide) (eq_R (by omega)) ?_
    refine gr_callS dX1_greatestShift_12 (c_degree l E d h (B (2 + i)) 7 (F i) (eq_r hB (by omega)) (by decide)) ysX4_degree ⟨ml_X1_24, sm_X4_degree⟩ rfl rfl (Nat.le_of_ble_eq_true rfl) ⟨(Nat.le_refl _), (Nat.le_refl _)⟩ ⟨(Nat.le_refl _), (Nat.le_refl _)⟩ (fun r0 h1 hp9 => ?_)
    obtain ⟨e1, rfl⟩ := hp9
    subst h1
    have hle := pdeg_le (F i) 7
    refine gr_iflt 20 dX1_greatestShift_15 (by decide) (fun c_15 => ?_) (fun c_15 => ?_)
    · refine gr_iinc (v := nI i - nI 1) dX1_greatestShift_20 rfl (dn_step i) (by decide) rfl ?_
      refine gr_goto 2 dX1_greatestShift_23 (by decide) ?_
      refine ih (by omega) (fun j h1 h2 => ?_)
      by_cases e : j = i
      · subst e; exact (dn_neg (by omega)).mp c_15
      · exact hlt j (by omega) h2
    · refine gr_iload_n dX1_greatestShift_18 rfl ?_
      exact gr_ireturn dX1_greatestShift_19 rfl (Nat.le_refl _) (Nat.le_refl _) ⟨rfl, some i, rfl, Or.inr ⟨i, rfl, by omega, fun z => c_15 ((dn_neg (by omega)).mpr z), fun k h1 h2 => hlt k (by omega) h2⟩⟩

set_option maxHeartbeats 4000000 in
set_option maxRecDepth 100000 in
theorem c_greatestShift (l : Launch) (E : ga_E) (d : Nat) (h : ga_H) (B : Nat → Nat) (o : Nat) (F : Nat → Nat → zp) (S : Nat → zp) (hB : eqAt E h B o F S) : ga_Ok l E (d + 1) mX1_greatestShift [.ref (B 0)] h 0 0 (fun r0 h' => h' = h ∧ ∃ q, r0 = some (.int (optI q)) ∧ GreatS F q) := by
  refine ga_Ok.of 1 _ (by decide) rfl (Nat.le_of_ble_eq_true rfl) rfl ?_
  refine gr_iconst (v := nI 5 - nI 1) dX1_greatestShift_0 (by decide) (gr_istore_n dX1_greatestShift_1 (by decide) rfl ?_)
  exact c_gs_loop l E d h B o F S hB 5 (by omega) (fun j h1 h2 => absurd h2 (by omega))

set_option maxHeartbeats 4000000 in
set_option maxRecDepth 100000 in
theorem c_gd_loop (l : Launch) (E : ga_E) (d : Nat) (h : ga_H) (B : Nat → Nat) (o : Nat) (F : Nat → Nat → zp) (S : Nat → zp) (hB : eqAt E h B o F S) : ∀ (g i : Nat), i + g = 5 → ga_G l E mX1_greatestDegree (ga_Rm (d + 1) 0 0) (ga_Z E (fun r0 h' => h' = h ∧ r0 = some (.int (nI (dmax F 5) - nI 1))) 0 0) 4 [some (.ref (B 0)), some (.int (nI (dmax F i) - nI 1)), some (.int (nI i))] [] h 0 0 := by
  intro g
  induction g with
  | zero =>
    intro i hi
    refine gr_iload_n dX1_greatestDegree_4 rfl (gr_iconst (v := nI 4) dX1_greatestDegree_5 rfl ?_)
    refine gr_icmpgtN 29 dX1_greatestDegree_6 (by decide) (by omega) (by decide) (fun _ => ?_) (fun z => absurd z (by omega))
    refine gr_iload_n dX1_greatestDegree_29 rfl ?_
    exact gr_ireturn dX1_greatestDegree_30 rfl (Nat.le_refl _) (Nat.le_refl _) ⟨rfl, by rw [show i = 5 by omega]⟩
  | succ g ih =>
    intro i hi
    refine gr_iload_n dX1_greatestDegree_4 rfl (gr_iconst (v := nI 4) dX1_greatestDegree_5 rfl ?_)
    refine gr_icmpgtN 29 dX1_greatestDegree_6 (by decide) (by omega) (by decide) (fun z => absurd z (by omega)) (fun _ => ?_)
    refine gr_iload_n dX1_greatestDegree_9 rfl ?_
    refine gr_aload_n dX1_greatestDegree_10 rfl ?_
    refine gr_getf dX1_greatestDegree_11 cls_X1 1 (by decide) fl_X1_11 (eq_0 hB) rfl ?_
    refine gr_iload_n dX1_greatestDegree_14 rfl ?_
    refine gr_aaloadI dX1_greatestDegree_15 (eq_1 hB) (by omega) (by decide) (eq_R (by omega)) ?_
    refine gr_callS dX1_greatestDegree_16 (c_degree l E d h (B (2 + i)) 7 (F i) (eq_r hB (by omega)) (by decide)) ysX4_degree ⟨ml_X1_24, sm_X4_degree⟩ rfl rfl (Nat.le_of_ble_eq_true rfl) ⟨(Nat.le_refl _), (Nat.le_refl _)⟩ ⟨(Nat.le_refl _), (Nat.le_refl _)⟩ (fun r0 h1 hp9 => ?_)
    obtain ⟨e1, rfl⟩ := hp9
    subst h1
    have hle := pdeg_le (F i) 7
    have hdm := dmax_le F i
    refine gr_callS dX1_greatestDegree_19 (c_max l E d h _ _) ysJ9_max_7cf53 ⟨ml_X1_30, sm_J9_max_7cf53⟩ rfl rfl (Nat.le_of_ble_eq_true rfl) ⟨(Nat.le_refl _), (Nat.le_refl _)⟩ ⟨(Nat.le_refl _), (Nat.le_refl _)⟩ (fun r0 h1 hp9 => ?_)
    obtain ⟨e1, rfl⟩ := hp9
    subst h1
    refine gr_top (congrArg Value.int (dn_max _ (by omega) _ (by omega))) ?_
    refine gr_istore_n dX1_greatestDegree_22 (by decide) rfl ?_
    refine gr_iinc (v := nI (_ + 1)) dX1_greatestDegree_23 rfl (nI_1 _) (by decide) rfl ?_
    refine gr_goto 4 dX1_greatestDegree_26 (by decide) ?_
    exact ih (i + 1) (by omega)

set_option maxHeartbeats 4000000 in
set_option maxRecDepth 100000 in
theorem c_greatestDegree (l : Launch) (E : ga_E) (d : Nat) (h : ga_H) (B : Nat → Nat) (o : Nat) (F : Nat → Nat → zp) (S : Nat → zp) (hB : eqAt E h B o F S) : ga_Ok l E (d + 1) mX1_greatestDegree [.ref (B 0)] h 0 0 (fun r0 h' => h' = h ∧ r0 = some (.int (nI (dmax F 5) - nI 1))) := by
  refine ga_Ok.of 2 _ (by decide) rfl (Nat.le_of_ble_eq_true rfl) rfl ?_
  refine gr_iconst (v := nI 0 - nI 1) dX1_greatestDegree_0 (by decide) (gr_istore_n dX1_greatestDegree_1 (by decide) rfl (gr_iconst (v := nI 0) dX1_greatestDegree_2 rfl (gr_istore_n dX1_greatestDegree_3 (by decide) rfl ?_)))
  exact c_gd_loop l E d h B o F S hB 5 0 (by omega)

def bsS (S : Nat → zp) (i j : Nat) : zp := if j < 13 then 0 else if i < 11 then S i else 0
def adT (F : Nat → Nat → zp) (z : zp) (k j i : Nat) : zp := if pdeg (F k) 7 = 0 then 0 else tmc (F k) (zpow z k) (zo k) j i
/-- the system with k shifts in it -/
def fillK (F : Nat → Nat → zp) (S : Nat → zp) (z : zp) (k i j : Nat) : zp := bsS S i j + if j < 13 then zs k (fun k => adT F z k j i) else 0
theorem fillK_0 (F : Nat → Nat → zp) (S : Nat → zp) (z : zp) (i j : Nat) : fillK F S z 0 i j = bsS S i j := by
  unfold fillK
  split
  · show _ + 0 = _; grind
  · grind
theorem fillK_up {F : Nat → Nat → zp} {S : Nat → zp} {z : zp} {k : Nat} {C : Nat → Nat → zp} (h : ∀ i, i < 19 → ∀ j, j < 14 → C i j = fillK F S z k i j) : ∀ i, i < 19 → ∀ j, j < 14 → addF C (F k) (zpow z k) (zo k) i j = fillK F S z (k + 1) i j := by
  intro i hi j hj
  unfold addF
  by_cases hF : pdeg (F k) 7 = 0
  · rw [if_pos hF, h i hi j hj]
    unfold fillK
    by_cases c : j < 13
    · rw [if_pos c, if_pos c]
      show _ = _ + (zs k _ + adT F z k j i)
      unfold adT
      rw [if_pos hF]
      grind
    · rw [if_neg c, if_neg c]
  · rw [if_neg hF]
    unfold adI
    by_cases c : j < 13
    · rw [if_pos ⟨hi, Or.inl c⟩, h i hi j hj]
      unfold fillK
      rw [if_pos c, if_pos c]
      show _ = _ + (zs k _ + adT F z k j i)
      unfold adT
      rw [if_neg hF]
      grind
    · rw [if_neg (by omega), h i hi j hj]
      unfold fillK
      rw [if_neg c, if_neg c]

set_option maxHeartbeats 4000000 in
set_option maxRecDepth 100000 in
theorem c_fill_sh (l : Launch) (E : ga_E) (d : Nat) (h : ga_H) (A : Nat → Nat) (hA : ga_inj A 24) (u : Nat → Bool) (pv : Nat → Option Nat) (B : Nat → Nat) (o : Nat) (F : Nat → Nat → zp) (S : Nat → zp) (hB : eqAt E h B o F S) (hBA : ∀ k, k < 8 → ∀ m, m < 24 → B k ≠ A m) (z : zp) : ∀ (g k : Nat) (C : Nat → Nat → zp) (t : Nat → zp), k + g = 5 → pz 19 t → (∀ i, i < 19 → ∀ j, j < 14 → C i j = fillK F S z k i j) → ga_G l E mX2_fill (ga_Rm (d + 2) 0 0) (ga_Z E (fun r0 h' => ∃ C' t', pz 19 t' ∧ (∀ i, i < 19 → ∀ j, j < 14 → C' i j = fillK F S z 5 i j) ∧ h' = lsH E h A C' u pv t' ∧ r0 = none) 0 0) 70 [some (.ref (A 0)), some (.ref (B 0)), some (.int (nI z.val)), some (.int (nI (zpow z k).val)), some (.int (nI k))] [] (lsH E h A C u pv t) 0 0 := by
  intro g
  induction g with
  | zero =>
    intro k C t hg ht hC
    refine gr_iload dX2_fill_70 rfl (gr_iconst (v := nI 4) dX2_fill_72 rfl ?_)
    refine gr_icmpgtN 104 dX2_fill_73 (by decide) (by omega) (by decide) (fun _ => ?_) (fun z => absurd z (by omega))
    exact gr_return dX2_fill_104 rfl (Nat.le_refl _) (Nat.le_refl _) ⟨C, t, ht, by rw [show 5 = k by omega]; exact hC, rfl, rfl⟩
  | succ g ih =>
    intro k C t hg ht hC
    refine gr_iload dX2_fill_70 rfl (gr_iconst (v := nI 4) dX2_fill_72 rfl ?_)
    refine gr_icmpgtN 104 dX2_fill_73 (by decide) (by omega) (by decide) (fun z => absurd z (by omega)) (fun _ => ?_)
    refine gr_aload_n dX2_fill_76 rfl ?_
    refine gr_aload_n dX2_fill_77 rfl ?_
    refine gr_getf dX2_fill_78 cls_X1 1 (by decide) fl_X2_32 ((ga_ov_out (hBA 0 (by decide))).trans (eq_0 hB)) rfl ?_
    refine gr_iload dX2_fill_81 rfl ?_
    refine gr_aaloadI dX2_fill_83 ((ga_ov_out (hBA 1 (by decide))).trans (eq_1 hB)) (by omega) (by decide) (eq_R (by omega)) ?_
    refine gr_iload dX2_fill_84 rfl (gr_top (show Value.int (nI k) = .int (nI (zo k).val) by rw [show (zo k).val = k from Nat.mod_eq_of_lt (by omega)]) ?_)
    refine gr_iload_n dX2_fill_86 rfl ?_
    refine gr_callV dX2_fill_87 (c_addFactor l E d h A hA C u pv (B (2 + k)) (hBA (2 + k) (by omega)) (F k) (eq_r hB (by omega)) (zo k) (zpow z k) t ht) ysX2_addFactor ⟨ml_X2_35, im_X2_addFactor, sl_X2_addFactor⟩ (ls_0 hA) (show vwCl[4]? = some (RX2, TX2, _) from rfl) rfl rfl (Nat.le_of_ble_eq_true rfl) ⟨(Nat.le_refl _), (Nat.le_refl _)⟩ ⟨(Nat.le_refl _), (Nat.le_refl _)⟩ (fun r0 h1 hp9 => ?_)
    obtain ⟨t1, ht1, e1, rfl⟩ := hp9
    subst h1
    refine gr_iload_n dX2_fill_90 rfl ?_
    refine gr_iload_n dX2_fill_91 rfl ?_
    refine gr_mulP dX2_fill_92 dX2_fill_93 dX2_fill_96 ?_
    refine gr_istore_n dX2_fill_97 (by decide) rfl ?_
    refine gr_iinc (v := nI (_ + 1)) dX2_fill_98 rfl (nI_1 _) (by decide) rfl ?_
    refine gr_goto 70 dX2_fill_101 (by decide) ?_
    exact ih (k + 1) _ _ (by omega) ht1 (fillK_up hC)

set_option maxHeartbeats 4000000 in
set_option maxRecDepth 100000 in
theorem c_fill_col (l : Launch) (E : ga_E) (d : Nat) (h : ga_H) (A : Nat → Nat) (hA : ga_inj A 24) (u : Nat → Bool) (pv : Nat → Option Nat) (B : Nat → Nat) (o : Nat) (F : Nat → Nat → zp) (S : Nat → zp) (hB : eqAt E h B o F S) (hBA : ∀ k, k < 8 → ∀ m, m < 24 → B k ≠ A m) (z : zp) (t : Nat → zp) (a : Nat) (ha : a < 19) (kx : ∀ C : Nat → Nat → zp, (∀ i, i < a → ∀ j, j < 14 → C i j = bsS S i j) → (∀ j, j < 13 → C a j = 0) → ga_G l E mX2_fill (ga_Rm (d + 2) 0 0) (ga_Z E (fun r0 h' => ∃ C' t', pz 19 t' ∧ (∀ i, i < 19 → ∀ j, j < 14 → C' i j = fillK F S z 5 i j) ∧ h' = lsH E h A C' u pv t' ∧ r0 = none) 0 0) 34 [some (.ref (A 0)), some (.ref (B 0)), some (.int (nI z.val)), some (.int (nI a)), some (.int (nI 13))] [] (lsH E h A C u pv t) 0 0) : ∀ (g c : Nat) (C : Nat → Nat → zp), c + g = 13 → (∀ i, i < a → ∀ j, j < 14 → C i j = bsS S i j) → (∀ j, j < c → C a j = 0) → ga_G l E mX2_fill (ga_Rm (d + 2) 0 0) (ga_Z E (fun r0 h' => ∃ C' t', pz 19 t' ∧ (∀ i, i < 19 → ∀ j, j < 14 → C' i j = fillK F S z 5 i j) ∧ h' = lsH E h A C' u pv t' ∧ r0 = none) 0 0) 11 [some (.ref (A 0)), some (.ref (B 0)), some (.int (nI z.val)), some (.int (nI a)), some (.int (nI c))] [] (lsH E h A C u pv t) 0 0 := by
  intro g
  induction g with
  | zero =>
    intro c C hg hlt hz
    refine gr_iload dX2_fill_11 rfl (gr_bipush (v := nI 13) dX2_fill_13 (by decide) ?_)
    refine gr_icmpgeN 34 dX2_fill_15 (by decide) (by omega) (by decide) (fun _ => ?_) (fun z => absurd z (by omega))
    rw [show c = 13 by omega]
    exact kx C hlt (fun j hj => hz j (by omega))
  | succ g ih =>
    intro c C hg hlt hz
    refine gr_iload dX2_fill_11 rfl (gr_bipush (v := nI 13) dX2_fill_13 (by decide) ?_)
    refine gr_icmpgeN 34 dX2_fill_15 (by decide) (by omega) (by decide) (fun z => absurd z (by omega)) (fun _ => ?_)
    refine gr_aload_n dX2_fill_18 rfl ?_
    refine gr_getf dX2_fill_19 cls_X2 0 (by decide) fl_X2_11 (ls_0 hA) rfl ?_
    refine gr_iload_n dX2_fill_22 rfl ?_
    refine gr_aaloadI dX2_fill_23 (ls_1 hA) (by omega) (by decide) (ls_R (by omega)) ?_
    refine gr_iload dX2_fill_24 rfl ?_
    refine gr_iconst (v := nI (0 : zp).val) dX2_fill_26 rfl ?_
    refine gr_iastoreF dX2_fill_27 (ls_r hA (by omega)) (by omega) (by decide) ?_
    rw [ls_wr hA (by omega)]
    refine gr_iinc (v := nI (_ + 1)) dX2_fill_28 rfl (nI_1 _) (by decide) rfl ?_
    refine gr_goto 11 dX2_fill_31 (by decide) ?_
    refine ih (c + 1) _ (by omega) (fun i1 h1 j hj => ?_) (fun j hj => ?_)
    · rw [va_un (by omega)]; exact hlt i1 h1 j hj
    · rw [va_us]
      by_cases e : j = c
      · subst e; exact va_us
      · exact (va_un e).trans (hz j (by omega))

set_option maxHeartbeats 4000000 in
set_option maxRecDepth 100000 in
theorem c_fill_ln (l : Launch) (E : ga_E) (d : Nat) (h : ga_H) (A : Nat → Nat) (hA : ga_inj A 24) (u : Nat → Bool) (pv : Nat → Option Nat) (B : Nat → Nat) (o : Nat) (F : Nat → Nat → zp) (S : Nat → zp) (hB : eqAt E h B o F S) (hBA : ∀ k, k < 8 → ∀ m, m < 24 → B k ≠ A m) (z : zp) (t : Nat → zp) (ht : pz 19 t) : ∀ (g a : Nat) (C : Nat → Nat → zp) (x4 : Option Value), a + g = 19 → (∀ i, i < a → ∀ j, j < 14 → C i j = bsS S i j) → ga_G l E mX2_fill (ga_Rm (d + 2) 0 0) (ga_Z E (fun r0 h' => ∃ C' t', pz 19 t' ∧ (∀ i, i < 19 → ∀ j, j < 14 → C' i j = fillK F S z 5 i j) ∧ h' = lsH E h A C' u pv t' ∧ r0 = none) 0 0) 2 [some (.ref (A 0)), some (.ref (B 0)), some (.int (nI z.val)), some (.int (nI a)), x4] [] (lsH E h A C u pv t) 0 0 := by
  intro g
  induction g with
  | zero =>
    intro a C x4 hg hlt
    refine gr_iload_n dX2_fill_2 rfl (gr_bipush (v := nI 19) dX2_fill_3 (by decide) ?_)
    refine gr_icmpgeN 65 dX2_fill_5 (by decide) (by omega) (by decide) (fun _ => ?_) (fun z => absurd z (by omega))
    refine gr_iconst (v := nI (zpow z 0).val) dX2_fill_65 rfl (gr_istore_n dX2_fill_66 (by decide) rfl (gr_iconst (v := nI 0) dX2_fill_67 rfl (gr_istore dX2_fill_68 (by decide) rfl ?_)))
    exact c_fill_sh l E d h A hA u pv B o F S hB hBA z 5 0 C t (by omega) ht (fun i hi j hj => by rw [fillK_0]; exact hlt i (by omega) j hj)
  | succ g ih =>
    intro a C x4 hg hlt
    refine gr_iload_n dX2_fill_2 rfl (gr_bipush (v := nI 19) dX2_fill_3 (by decide) ?_)
    refine gr_icmpgeN 65 dX2_fill_5 (by decide) (by omega) (by decide) (fun z => absurd z (by omega)) (fun _ => ?_)
    refine gr_iconst (v := nI 0) dX2_fill_8 rfl (gr_istore dX2_fill_9 (by decide) rfl ?_)
    refine c_fill_col l E d h A hA u pv B o F S hB hBA z t a (by omega) (fun C1 hlt1 hz1 => ?_) 13 0 C (by omega) hlt (fun j hj => absurd hj (by omega))
    refine gr_aload_n dX2_fill_34 rfl ?_
    refine gr_getf dX2_fill_35 cls_X2 0 (by decide) fl_X2_11 (ls_0 hA) rfl ?_
    refine gr_iload_n dX2_fill_38 rfl ?_
    refine gr_aaloadI dX2_fill_39 (ls_1 hA) (by omega) (by decide) (ls_R (by omega)) ?_
    refine gr_bipush (v := nI 13) dX2_fill_40 (by decide) ?_
    refine gr_iload_n dX2_fill_42 rfl ?_
    refine gr_bipush (v := nI 11) dX2_fill_43 (by decide) ?_
    refine gr_icmpgeN 57 dX2_fill_45 (by decide) (by omega) (by decide) (fun c_45 => ?_) (fun c_45 => ?_)
    · refine gr_iconst (v := nI (0 : zp).val) dX2_fill_57 rfl ?_
      refine gr_iastoreF dX2_fill_58 (ls_r hA (by omega)) (by decide) (by decide) ?_
      rw [ls_wr hA (by omega)]
      refine gr_iinc (v := nI (_ + 1)) dX2_fill_59 rfl (nI_1 _) (by decide) rfl ?_
      refine gr_goto 2 dX2_fill_62 (by decide) ?_
      refine ih (a + 1) _ _ (by omega) (fun i1 h1 j hj => ?_)
      by_cases e : i1 = a
      · subst e
        rw [va_us]
        unfold bsS
        by_cases e2 : j = 13
        · subst e2; rw [va_us, if_neg (by decide), if_neg (by omega)]
        · rw [va_un e2, if_pos (by omega)]; exact hz1 j (by omega)
      · rw [va_un e]; exact hlt1 i1 (by omega) j hj
    · refine gr_aload_n dX2_fill_48 rfl ?_
      refine gr_getf dX2_fill_49 cls_X1 2 (by decide) fl_X2_27 ((ga_ov_out (hBA 0 (by decide))).trans (eq_0 hB)) rfl ?_
      refine gr_iload_n dX2_fill_52 rfl ?_
      refine gr_ialoadF dX2_fill_53 ((ga_ov_out (hBA 7 (by decide))).trans (eq_7 hB)) (by omega) (by decide) ?_
      refine gr_goto 58 dX2_fill_54 (by decide) ?_
      refine gr_iastoreF dX2_fill_58 (ls_r hA (by omega)) (by decide) (by decide) ?_
      rw [ls_wr hA (by omega)]
      refine gr_iinc (v := nI (_ + 1)) dX2_fill_59 rfl (nI_1 _) (by decide) rfl ?_
      refine gr_goto 2 dX2_fill_62 (by decide) ?_
      refine ih (a + 1) _ _ (by omega) (fun i1 h1 j hj => ?_)
      by_cases e : i1 = a
      · subst e
        rw [va_us]
        unfold bsS
        by_cases e2 : j = 13
        · subst e2; rw [va_us, if_neg (by decide), if_pos c_45]
        · rw [va_un e2, if_pos (by omega)]; exact hz1 j (by omega)
      · rw [va_un e]; exact hlt1 i1 (by omega) j hj

set_option maxHeartbeats 4000000 in
set_option maxRecDepth 100000 in
theorem c_fill (l : Launch) (E : ga_E) (d : Nat) (h : ga_H) (A : Nat → Nat) (hA : ga_inj A 24) (u : Nat → Bool) (pv : Nat → Option Nat) (B : Nat → Nat) (o : Nat) (F : Nat → Nat → zp) (S : Nat → zp) (hB : eqAt E h B o F S) (hBA : ∀ k, k < 8 → ∀ m, m < 24 → B k ≠ A m) (z : zp) (C : Nat → Nat → zp) (t : Nat → zp) (ht : pz 19 t) : ga_Ok l E (d + 2) mX2_fill [.ref (A 0), .ref (B 0), .int (nI z.val)] (lsH E h A C u pv t) 0 0 (fun r0 h' => ∃ C' t', pz 19 t' ∧ (∀ i, i < 19 → ∀ j, j < 14 → C' i j = fillK F S z 5 i j) ∧ h' = lsH E h A C' u pv t' ∧ r0 = none) := by
  refine ga_Ok.of 2 _ (by decide) rfl (Nat.le_of_ble_eq_true rfl) rfl ?_
  refine gr_iconst (v := nI 0) dX2_fill_0 rfl (gr_istore_n dX2_fill_1 (by decide) rfl ?_)
  exact c_fill_ln l E d h A hA u pv B o F S hB hBA z t ht 19 0 C _ (by omega) (fun i hi => absurd hi (by omega))
