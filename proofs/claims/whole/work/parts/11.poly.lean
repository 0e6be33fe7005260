/-! Polynomials: rows of numbers -/
/-- one more than the degree of the first n numbers; 0 if all are 0 -/
def pdeg (v : Nat → zp) : Nat → Nat
  | 0 => 0
  | n + 1 => if v n = 0 then pdeg v n else n + 1
theorem pdeg_le (v : Nat → zp) : ∀ n, pdeg v n ≤ n
  | 0 => Nat.le_refl _
  | n + 1 => by
    unfold pdeg
    have := pdeg_le v n
    split <;> omega
/-- Horner's value: the numbers below k onto acc -/
def phor (v : Nat → zp) (x : zp) : Nat → zp → zp
  | 0, acc => acc
  | k + 1, acc => phor v x k (acc * x + v k)
def pmon (v : Nat → zp) (n : Nat) : Nat → zp := fun j => if j < pdeg v n then v j * zinv (v (pdeg v n - 1)) else v j
def pmul (v : Nat → zp) (n : Nat) (c : zp) : Nat → zp := fun j => if j < n then (if j = 0 then v 0 * c else v j * c + v (j - 1)) else v j
/-- one step of a division by w, of k numbers: at p the number is taken off -/
def pstep (v w : Nat → zp) (k p : Nat) : Nat → zp := fun j => if p + 1 ≤ j + k ∧ j ≤ p then v j - v p * w (j + k - (p + 1)) else v j
def prd (w : Nat → zp) (k : Nat) : Nat → (Nat → zp) → (Nat → zp)
  | 0, v => v
  | p + 1, v => if p + 1 < k then v else prd w k p (pstep v w k p)
section PO
variable {l : Launch} {E : ga_E} {M : ga_M} {R : Room} {Z : List Frame → Array Value → State → State → Prop} {pc : Nat} {lv : List (Option Value)} {st : List Value} {h : ga_H} {cells slots : Nat}
theorem gr_ialoadU {a j n : Nat} {v : Nat → zp} (hd : decode M.2.1 pc = .ok (.iaload, 1)) (hj : j < n) (hn : n < 2 ^ 31) (k : ga_G l E M R Z (pc + 1) lv (.int (nI (v j).val) :: st) (ga_up h a (ga_f E n v)) cells slots) : ga_G l E M R Z pc lv (.int (nI j) :: .ref a :: st) (ga_up h a (ga_f E n v)) cells slots := gr_iaload hd ga_up_eq hj hn k
theorem gr_iastoreU {a j n : Nat} {v : Nat → zp} {x : zp} (hd : decode M.2.1 pc = .ok (.iastore, 1)) (hj : j < n) (hn : n < 2 ^ 31) (k : ga_G l E M R Z (pc + 1) lv st (ga_up h a (ga_f E n (va_up v j x))) cells slots) : ga_G l E M R Z pc lv (.int (nI x.val) :: .int (nI j) :: .ref a :: st) (ga_up h a (ga_f E n v)) cells slots := gr_iastoreF hd ga_up_eq hj hn (by rw [ga_up_up]; exact k)
/-- a sum of a product and a number modulo 32003, its numbers as they are -/
theorem gr_remP {m : Nat} {x : zp} (d2 : decode M.2.1 pc = .ok (.sipush 32003, 3)) (d3 : decode M.2.1 (pc + 3) = .ok (.irem, 1)) (hm : m < 2 ^ 31) (hx : zo m = x) (k : ga_G l E M R Z (pc + 3 + 1) lv (.int (nI x.val) :: st) h cells slots) : ga_G l E M R Z pc lv (.int (nI m) :: st) h cells slots := by
  subst hx
  exact gr_sipush (v := nI 32003) d2 (by decide) (gr_iremN d3 hm (by decide) (by decide) k)
end PO

set_option maxHeartbeats 4000000 in
set_option maxRecDepth 100000 in
theorem c_degree_loop (l : Launch) (E : ga_E) (d : Nat) (h : ga_H) (a n : Nat) (v : Nat → zp) (ha : h a = some (ga_f E n v)) (hn : n < 2 ^ 31) : ∀ k : Nat, k ≤ n → ga_G l E mX4_degree (ga_Rm d 0 0) (ga_Z E (fun r h' => h' = h ∧ r = some (.int (nI (pdeg v k) - nI 1))) 0 0) 5 [some (.ref a), some (.int (nI k - nI 1))] [] h 0 0 := by
  intro k
  induction k with
  | zero =>
    intro _
    refine gr_iload_n dX4_degree_5 rfl ?_
    refine gr_iflt 23 dX4_degree_6 (by decide) (fun _ => ?_) (fun c => absurd ((dn_neg (by decide)).mpr rfl) c)
    refine gr_iconst (v := -1) dX4_degree_23 (by decide) ?_
    exact gr_ireturn dX4_degree_24 rfl (Nat.le_refl _) (Nat.le_refl _) ⟨rfl, rfl⟩
  | succ k ih =>
    intro hk
    rw [dn_top]
    refine gr_iload_n dX4_degree_5 rfl ?_
    refine gr_ifltN dX4_degree_6 23 (by decide) (by omega) ?_
    refine gr_aload_n dX4_degree_9 rfl ?_
    refine gr_iload_n dX4_degree_10 rfl ?_
    refine gr_ialoadF dX4_degree_11 ha (by omega) hn ?_
    refine gr_ifeqN 17 dX4_degree_12 (by decide) (by have := zl (v k); omega) (fun c_12 => ?_) (fun c_12 => ?_)
    · refine gr_iinc (v := nI k - nI 1) dX4_degree_17 rfl (dn_step k) (by decide) rfl ?_
      refine gr_goto 5 dX4_degree_20 (by decide) ?_
      have e1 : pdeg v (k + 1) = pdeg v k := if_pos (Fin.ext c_12)
      rw [e1]
      exact ih (by omega)
    · refine gr_iload_n dX4_degree_15 rfl ?_
      exact gr_ireturn dX4_degree_16 rfl (Nat.le_refl _) (Nat.le_refl _) ⟨rfl, by rw [show pdeg v (k + 1) = k + 1 from if_neg (fun z => c_12 (by rw [z]; rfl)), dn_top]⟩

set_option maxHeartbeats 4000000 in
set_option maxRecDepth 100000 in
theorem c_degree (l : Launch) (E : ga_E) (d : Nat) (h : ga_H) (a n : Nat) (v : Nat → zp) (ha : h a = some (ga_f E n v)) (hn : n < 2 ^ 31) : ga_Ok l E d mX4_degree [.ref a] h 0 0 (fun r h' => h' = h ∧ r = some (.int (nI (pdeg v n) - nI 1))) := by
  refine ga_Ok.of 1 _ (by decide) rfl (Nat.le_of_ble_eq_true rfl) rfl ?_
  refine gr_aload_n dX4_degree_0 rfl ?_
  refine gr_alen_i dX4_degree_1 ha ?_
  refine gr_iconst (v := nI 1) dX4_degree_2 rfl ?_
  refine gr_isub dX4_degree_3 ?_
  refine gr_istore_n dX4_degree_4 (by decide) rfl ?_
  exact c_degree_loop l E d h a n v ha hn n (Nat.le_refl _)

theorem zo_sx (s : zp) (x : Nat) (c : zp) : zo (s.val * x + c.val) = s * zo x + c := by rw [zo_add, zo_mul, zo_self, zo_self]

set_option maxHeartbeats 4000000 in
set_option maxRecDepth 100000 in
theorem c_valueAt_loop (l : Launch) (E : ga_E) (d : Nat) (h : ga_H) (a n x : Nat) (v : Nat → zp) (ha : h a = some (ga_f E n v)) (hn : n < 2 ^ 31) (hx : x < 60000) (res : zp) : ∀ k : Nat, k ≤ n → ∀ s : zp, phor v (zo x) k s = res → ga_G l E mX4_valueAt (ga_Rm d 0 0) (ga_Z E (fun r h' => h' = h ∧ r = some (.int (nI res.val))) 0 0) 7 [some (.ref a), some (.int (nI x)), some (.int (nI s.val)), some (.int (nI k - nI 1))] [] h 0 0 := by
  intro k
  induction k with
  | zero =>
    intro _ s hs
    refine gr_iload_n dX4_valueAt_7 rfl ?_
    refine gr_iflt 29 dX4_valueAt_8 (by decide) (fun _ => ?_) (fun c => absurd ((dn_neg (by decide)).mpr rfl) c)
    refine gr_iload_n dX4_valueAt_29 rfl ?_
    exact gr_ireturn dX4_valueAt_30 rfl (Nat.le_refl _) (Nat.le_refl _) ⟨rfl, by rw [← hs]; rfl⟩
  | succ k ih =>
    intro hk s hs
    rw [dn_top]
    have hb : s.val * x + (v k).val < 2 ^ 31 := by
      have h1 := zl s
      have h2 := zl (v k)
      have h3 : s.val * x ≤ 32002 * 60000 := Nat.mul_le_mul (by omega) (by omega)
      omega
    refine gr_iload_n dX4_valueAt_7 rfl ?_
    refine gr_ifltN dX4_valueAt_8 29 (by decide) (by omega) ?_
    refine gr_iload_n dX4_valueAt_11 rfl ?_
    refine gr_iload_n dX4_valueAt_12 rfl ?_
    refine gr_imulN dX4_valueAt_13 ?_
    refine gr_aload_n dX4_valueAt_14 rfl ?_
    refine gr_iload_n dX4_valueAt_15 rfl ?_
    refine gr_ialoadF dX4_valueAt_16 ha (by omega) hn ?_
    refine gr_iaddN dX4_valueAt_17 ?_
    refine gr_remP dX4_valueAt_18 dX4_valueAt_21 hb (zo_sx s x (v k)) ?_
    refine gr_istore_n dX4_valueAt_22 (by decide) rfl ?_
    refine gr_iinc (v := nI k - nI 1) dX4_valueAt_23 rfl (dn_step k) (by decide) rfl ?_
    refine gr_goto 7 dX4_valueAt_26 (by decide) ?_
    exact ih (by omega) _ hs

set_option maxHeartbeats 4000000 in
set_option maxRecDepth 100000 in
theorem c_valueAt (l : Launch) (E : ga_E) (d : Nat) (h : ga_H) (a n x : Nat) (v : Nat → zp) (ha : h a = some (ga_f E n v)) (hn : n < 2 ^ 31) (hx : x < 60000) : ga_Ok l E d mX4_valueAt [.ref a, .int (nI x)] h 0 0 (fun r h' => h' = h ∧ r = some (.int (nI (phor v (zo x) n 0).val))) := by
  refine ga_Ok.of 2 _ (by decide) rfl (Nat.le_of_ble_eq_true rfl) rfl ?_
  refine gr_iconst (v := nI (0 : zp).val) dX4_valueAt_0 rfl ?_
  refine gr_istore_n dX4_valueAt_1 (by decide) rfl ?_
  refine gr_aload_n dX4_valueAt_2 rfl ?_
  refine gr_alen_i dX4_valueAt_3 ha ?_
  refine gr_iconst (v := nI 1) dX4_valueAt_4 rfl ?_
  refine gr_isub dX4_valueAt_5 ?_
  refine gr_istore_n dX4_valueAt_6 (by decide) rfl ?_
  exact c_valueAt_loop l E d h a n x v ha hn hx _ n (Nat.le_refl _) 0 rfl

def pmonI (v : Nat → zp) (z : zp) (i : Nat) : Nat → zp := fun j => if j < i then v j * z else v j
theorem pmon_zero {v : Nat → zp} {n : Nat} (hk : pdeg v n = 0) : pmon v n = v := by
  funext j; unfold pmon; rw [hk]; simp
theorem pmon_up {v : Nat → zp} {z : zp} {i : Nat} (_ : i ≤ i) : va_up (pmonI v z i) i (pmonI v z i i * z) = pmonI v z (i + 1) := by
  funext j; unfold va_up pmonI
  by_cases e : j = i
  · subst e; simp
  · by_cases h : j < i
    · simp [e, h, Nat.lt_succ_of_lt h]
    · simp [e, h, show ¬ j < i + 1 by omega]
theorem pmon_end {v : Nat → zp} {n k i : Nat} (hk : pdeg v n = k + 1) (hi : i = k + 1) : pmonI v (zinv (v k)) i = pmon v n := by
  funext j; unfold pmonI pmon; rw [hk, hi]; rfl
theorem pmonI_0 (v : Nat → zp) (z : zp) : pmonI v z 0 = v := by
  funext j; unfold pmonI; simp
theorem zpow_one : ∀ n, zpow 1 n = 1
  | 0 => rfl
  | n + 1 => by show zpow 1 n * 1 = 1; rw [zpow_one n]; rfl
theorem pmon_one {v : Nat → zp} {n k : Nat} (hk : pdeg v n = k + 1) (h1 : v k = 1) : pmon v n = v := by
  funext j; unfold pmon; rw [hk]
  show (if j < k + 1 then v j * zinv (v k) else v j) = v j
  rw [h1, show zinv 1 = 1 from zpow_one _, Fin.mul_one]
  split <;> rfl

set_option maxHeartbeats 4000000 in
set_option maxRecDepth 100000 in
theorem c_makeMonic_loop (l : Launch) (E : ga_E) (d : Nat) (h : ga_H) (a n k : Nat) (v : Nat → zp) (hn : n < 2 ^ 31) (hk : pdeg v n = k + 1) (hkn : k < n) : ∀ (m i : Nat), i + m = k + 1 → i ≤ k + 1 → ga_G l E mX4_makeMonic (ga_Rm (d + 1) 0 0) (ga_Z E (fun r h' => h' = ga_up h a (ga_f E n (pmon v n)) ∧ r = none) 0 0) 26 [some (.ref a), some (.int (nI k)), some (.int (nI (zinv (v k)).val)), some (.int (nI i))] [] (ga_up h a (ga_f E n (pmonI v (zinv (v k)) i))) 0 0 := by
  intro m
  induction m with
  | zero =>
    intro i hi hik
    refine gr_iload_n dX4_makeMonic_26 rfl (gr_iload_n dX4_makeMonic_27 rfl ?_)
    refine gr_icmpgtN 49 dX4_makeMonic_28 (by decide) (by omega) (by omega) (fun c_28 => ?_) (fun c_28 => absurd c_28 (by omega))
    exact gr_return dX4_makeMonic_49 rfl (Nat.le_refl _) (Nat.le_refl _) ⟨by rw [pmon_end hk (by omega)], rfl⟩
  | succ m ih =>
    intro i hi hik
    refine gr_iload_n dX4_makeMonic_26 rfl (gr_iload_n dX4_makeMonic_27 rfl ?_)
    refine gr_icmpgtN 49 dX4_makeMonic_28 (by decide) (by omega) (by omega) (fun c_28 => absurd c_28 (by omega)) (fun c_28 => ?_)
    refine gr_aload_n dX4_makeMonic_31 rfl ?_
    refine gr_iload_n dX4_makeMonic_32 rfl ?_
    refine gr_aload_n dX4_makeMonic_33 rfl ?_
    refine gr_iload_n dX4_makeMonic_34 rfl ?_
    refine gr_ialoadU dX4_makeMonic_35 (by omega) hn ?_
    refine gr_iload_n dX4_makeMonic_36 rfl ?_
    refine gr_mulP dX4_makeMonic_37 dX4_makeMonic_38 dX4_makeMonic_41 ?_
    refine gr_iastoreU dX4_makeMonic_42 (by omega) hn ?_
    refine gr_iinc (v := nI (_ + 1)) dX4_makeMonic_43 rfl (nI_1 _) (by decide) rfl ?_
    refine gr_goto 26 dX4_makeMonic_46 (by decide) ?_
    rw [pmon_up (by omega)]
    exact ih (i + 1) (by omega) (by omega)

set_option maxHeartbeats 4000000 in
set_option maxRecDepth 100000 in
theorem c_makeMonic (l : Launch) (E : ga_E) (d : Nat) (h : ga_H) (a n : Nat) (v : Nat → zp) (ha : h a = some (ga_f E n v)) (hn : n < 2 ^ 31) : ga_Ok l E (d + 1) mX4_makeMonic [.ref a] h 0 0 (fun r h' => h' = ga_up h a (ga_f E n (pmon v n)) ∧ r = none) := by
  refine ga_Ok.of 3 _ (by decide) rfl (Nat.le_of_ble_eq_true rfl) rfl ?_
  refine gr_aload_n dX4_makeMonic_0 rfl ?_
  refine gr_callS dX4_makeMonic_1 (c_degree l E d h a n v ha hn) ysX4_degree ⟨ml_X4_9, sm_X4_degree⟩ rfl rfl (Nat.le_of_ble_eq_true rfl) ⟨(Nat.le_refl _), (Nat.le_refl _)⟩ ⟨(Nat.le_refl _), (Nat.le_refl _)⟩ (fun r h1 hp => ?_)
  obtain ⟨e1, rfl⟩ := hp
  subst h1
  have hle := pdeg_le v n
  rcases hk : pdeg v n with _ | k
  · refine gr_istore_n dX4_makeMonic_4 (by decide) rfl ?_
    refine gr_iload_n dX4_makeMonic_5 rfl ?_
    refine gr_iflt 16 dX4_makeMonic_6 (by decide) (fun _ => ?_) (fun c => absurd ((dn_neg (by decide)).mpr rfl) c)
    exact gr_return dX4_makeMonic_16 rfl (Nat.le_refl _) (Nat.le_refl _) ⟨by rw [pmon_zero hk, ga_up_self ha], rfl⟩
  · rw [hk] at hle
    refine gr_top (congrArg Value.int (dn_top k)) ?_
    refine gr_istore_n dX4_makeMonic_4 (by decide) rfl ?_
    refine gr_iload_n dX4_makeMonic_5 rfl ?_
    refine gr_ifltN dX4_makeMonic_6 16 (by decide) (by omega) ?_ --one
    refine gr_aload_n dX4_makeMonic_9 rfl ?_
    refine gr_iload_n dX4_makeMonic_10 rfl ?_
    refine gr_ialoadF dX4_makeMonic_11 ha (by omega) hn ?_
    refine gr_iconst (v := nI 1) dX4_makeMonic_12 rfl ?_
    refine gr_icmpneN 17 dX4_makeMonic_13 (by decide) (by have := zl (v k); omega) (by decide) (fun c_13 => ?_) (fun c_13 => ?_)
    · refine gr_aload_n dX4_makeMonic_17 rfl ?_
      refine gr_iload_n dX4_makeMonic_18 rfl ?_
      refine gr_ialoadF dX4_makeMonic_19 ha (by omega) hn ?_
      refine gr_callS dX4_makeMonic_20 (c_inverse l E d h (v k)) ysX3_inverse ⟨ml_X4_15, sm_X3_inverse⟩ rfl rfl (Nat.le_of_ble_eq_true rfl) ⟨(Nat.le_refl _), (Nat.le_refl _)⟩ ⟨(Nat.le_refl _), (Nat.le_refl _)⟩ (fun r h1 hp => ?_)
      obtain ⟨e1, rfl⟩ := hp
      subst h1
      refine gr_istore_n dX4_makeMonic_23 (by decide) rfl ?_
      refine gr_iconst (v := nI 0) dX4_makeMonic_24 rfl ?_
      refine gr_istore_n dX4_makeMonic_25 (by decide) rfl ?_
      refine gr_h (show h = ga_up h a (ga_f E n (pmonI v (zinv (v k)) 0)) by rw [pmonI_0, ga_up_self ha]) ?_
      exact c_makeMonic_loop l E d h a n k v hn hk (by omega) (k + 1) 0 (by omega) (by omega)
    · exact gr_return dX4_makeMonic_16 rfl (Nat.le_refl _) (Nat.le_refl _) ⟨by rw [pmon_one hk (Fin.ext c_13), ga_up_self ha], rfl⟩
