/-! The field of 32003 numbers as the programs hold it, and Numbers -/
abbrev zp : Type := Fin 32003
def zo (m : Nat) : zp := Fin.ofNat 32003 m
theorem zo_val (m : Nat) : (zo m).val = m % 32003 := rfl
theorem zo_self (x : zp) : zo x.val = x := Fin.ext (Nat.mod_eq_of_lt x.isLt)
theorem zo_add (a b : Nat) : zo (a + b) = zo a + zo b := Fin.ext (by rw [Fin.val_add]; simp only [zo_val]; omega)
theorem zo_mul (a b : Nat) : zo (a * b) = zo a * zo b := Fin.ext (by rw [Fin.val_mul]; simp only [zo_val]; exact Nat.mul_mod a b 32003)
theorem zm_mul (a b : zp) : a.val * b.val % 32003 = (a * b).val := (Fin.val_mul a b).symm
theorem zm_add (a b : zp) : (a.val + b.val) % 32003 = (a + b).val := (Fin.val_add a b).symm
theorem zl (x : zp) : x.val < 32003 := x.isLt
theorem zmul_lt (a b : zp) : a.val * b.val < 2 ^ 31 - 40000 := Nat.lt_of_le_of_lt (Nat.mul_le_mul (Nat.le_of_lt_succ (by have := zl a; omega : a.val < 32003)) (Nat.le_of_lt_succ (by have := zl b; omega : b.val < 32003))) (by decide)
def zpow (x : zp) : Nat → zp
  | 0 => 1
  | n + 1 => zpow x n * x
def zinv (x : zp) : zp := zpow x 32001
theorem zpow_mul (x y : zp) (n : Nat) : zpow (x * y) n = zpow x n * zpow y n := by
  induction n with
  | zero => rfl
  | succ n ih => simp only [zpow]; rw [ih]; grind
theorem zpow_add (x : zp) (a b : Nat) : zpow x (a + b) = zpow x a * zpow x b := by
  induction b with
  | zero => show zpow x a = zpow x a * 1; grind
  | succ b ih => show zpow x (a + b) * x = zpow x a * (zpow x b * x); rw [ih]; grind
theorem zpow_sq (x : zp) (n : Nat) : zpow (x * x) n = zpow x (2 * n) := by
  rw [zpow_mul, Nat.two_mul, zpow_add]
/-- an array of numbers -/
abbrev ga_f (E : ga_E) (n : Nat) (v : Nat → zp) : va_E := ga_i E n (fun j => nI (v j).val)
theorem upd_f (v : Nat → zp) (k : Nat) (x : zp) : upd (fun j => nI (v j).val) k (nI x.val) = fun j => nI (va_up v k x j).val := by
  funext j; unfold upd va_up; by_cases e : j = k <;> simp [e]
section NUM
variable {l : Launch} {E : ga_E} {M : ga_M} {R : Room} {Z : List Frame → Array Value → State → State → Prop} {pc : Nat} {lv : List (Option Value)} {st : List Value} {h : ga_H} {cells slots : Nat}
theorem gr_ialoadF {a j n : Nat} {v : Nat → zp} (hd : decode M.2.1 pc = .ok (.iaload, 1)) (ha : h a = some (ga_f E n v)) (hj : j < n) (hn : n < 2 ^ 31) (k : ga_G l E M R Z (pc + 1) lv (.int (nI (v j).val) :: st) h cells slots) : ga_G l E M R Z pc lv (.int (nI j) :: .ref a :: st) h cells slots := gr_iaload hd ha hj hn k
theorem gr_iastoreF {a j n : Nat} {v : Nat → zp} {x : zp} (hd : decode M.2.1 pc = .ok (.iastore, 1)) (ha : h a = some (ga_f E n v)) (hj : j < n) (hn : n < 2 ^ 31) (k : ga_G l E M R Z (pc + 1) lv st (ga_up h a (ga_f E n (va_up v j x))) cells slots) : ga_G l E M R Z pc lv (.int (nI x.val) :: .int (nI j) :: .ref a :: st) h cells slots := gr_iastore hd ha hj hn (by rw [upd_f]; exact k)
/-- a product modulo 32003: imul, sipush, irem -/
theorem gr_mulP {a b : zp} (d1 : decode M.2.1 pc = .ok (.imul, 1)) (d2 : decode M.2.1 (pc + 1) = .ok (.sipush 32003, 3)) (d3 : decode M.2.1 (pc + 1 + 3) = .ok (.irem, 1)) (k : ga_G l E M R Z (pc + 1 + 3 + 1) lv (.int (nI (a * b).val) :: st) h cells slots) : ga_G l E M R Z pc lv (.int (nI b.val) :: .int (nI a.val) :: st) h cells slots := by
  refine gr_imulN d1 (gr_sipush (v := nI 32003) d2 (by decide) (gr_iremN d3 ?_ (by decide) (by decide) ?_))
  · have := zmul_lt a b; omega
  · rw [zm_mul]; exact k
theorem gr_dn {k : Nat} (i : Nat) (x : Int32) (e : x = nI k - nI 1) : x = nI k - nI 1 := e
end NUM
theorem dn_neg {k : Nat} (hk : k < 2 ^ 31) : nI k - nI 1 < 0 ↔ k = 0 := by
  constructor
  · intro h
    by_cases e : k = 0
    · exact e
    · exfalso
      rw [pk_sub (by omega)] at h
      exact nI_pos (by omega) h
  · rintro rfl; decide
theorem dn_step (j : Nat) : nI j + Int32.ofInt (-1) = nI j - nI 1 := by
  rw [Int32.sub_eq_add_neg]; rfl
theorem dn_top (j : Nat) : nI (j + 1) - nI 1 = nI j := nI_pred j

theorem zneg {x : zp} (h : x.val ≠ 0) : (-x).val = 32003 - x.val := by
  have := zl x
  rw [Fin.val_neg']
  exact Nat.mod_eq_of_lt (by omega)

set_option maxHeartbeats 4000000 in
set_option maxRecDepth 100000 in
theorem c_negative (l : Launch) (E : ga_E) (d : Nat) (h : ga_H) (x : zp) : ga_Ok l E d mX3_negative [.int (nI x.val)] h 0 0 (fun r h' => h' = h ∧ r = some (.int (nI (-x).val))) := by
  refine ga_Ok.of 0 _ (by decide) rfl (Nat.le_of_ble_eq_true rfl) rfl ?_
  have hx0 := zl x
  refine gr_iload_n dX3_negative_0 rfl ?_
  refine gr_ifneN 8 dX3_negative_1 (by decide) (by omega) (fun c_1 => ?_) (fun c_1 => ?_)
  · have hx := zl x
    refine gr_sipush (v := nI 32003) dX3_negative_8 (by decide) ?_
    refine gr_iload_n dX3_negative_11 rfl ?_
    refine gr_isubN dX3_negative_12 (by omega) ?_
    exact gr_ireturn dX3_negative_13 rfl (Nat.le_refl _) (Nat.le_refl _) ⟨rfl, by rw [← zneg c_1]⟩
  · refine gr_iconst (v := nI 0) dX3_negative_4 rfl ?_
    refine gr_goto 13 dX3_negative_5 (by decide) ?_
    exact gr_ireturn dX3_negative_13 rfl (Nat.le_refl _) (Nat.le_refl _) ⟨rfl, by rw [show x = 0 from Fin.ext c_1]; rfl⟩

theorem zsub_val (x y : zp) : (x - y).val = if y.val ≤ x.val then x.val - y.val else x.val + 32003 - y.val := by
  have := zl x
  have := zl y
  rw [Fin.val_sub]
  split
  · rw [show 32003 - y.val + x.val = 32003 + (x.val - y.val) by omega, Nat.add_mod_left]
    exact Nat.mod_eq_of_lt (by omega)
  · exact (Nat.mod_eq_of_lt (by omega)).trans (by omega)
theorem zdiff_ge {x y : zp} : (0 : Int32) ≤ nI x.val - nI y.val ↔ y.val ≤ x.val := by
  have := zl x
  have := zl y
  rw [Int32.le_iff_toInt_le, pk_sub_toInt (by omega) (by omega)]
  show (0 : Int) ≤ _ ↔ _
  omega
theorem zless_p {x y : zp} (h : (0 : Int32) ≤ nI x.val - nI y.val) : nI x.val - nI y.val = nI (x - y).val := by
  have h := zdiff_ge.mp h
  rw [zsub_val, if_pos h, pk_sub h]
theorem zless_n {x y : zp} (h : ¬ (0 : Int32) ≤ nI x.val - nI y.val) : nI x.val - nI y.val + nI 32003 = nI (x - y).val := by
  have h := fun z => h (zdiff_ge.mpr z)
  have := zl y
  rw [zsub_val, if_neg h, ← pk_sub (by omega), ← nI_add, Int32.sub_eq_add_neg, Int32.sub_eq_add_neg, Int32.add_assoc, Int32.add_comm (-nI y.val), ← Int32.add_assoc]

set_option maxHeartbeats 4000000 in
set_option maxRecDepth 100000 in
theorem c_less (l : Launch) (E : ga_E) (d : Nat) (h : ga_H) (x a b : zp) : ga_Ok l E d mX3_less [.int (nI x.val), .int (nI a.val), .int (nI b.val)] h 0 0 (fun r h' => h' = h ∧ r = some (.int (nI (x - a * b).val))) := by
  refine ga_Ok.of 1 _ (by decide) rfl (Nat.le_of_ble_eq_true rfl) rfl ?_
  refine gr_iload_n dX3_less_0 rfl ?_
  refine gr_iload_n dX3_less_1 rfl ?_
  refine gr_iload_n dX3_less_2 rfl ?_
  refine gr_mulP dX3_less_3 dX3_less_4 dX3_less_7 ?_
  refine gr_isub dX3_less_8 ?_
  refine gr_istore_n dX3_less_9 (by decide) rfl ?_
  refine gr_iload_n dX3_less_10 rfl ?_
  refine gr_ifge 22 dX3_less_11 (by decide) (fun c_11 => ?_) (fun c_11 => ?_)
  · refine gr_iload_n dX3_less_22 rfl ?_
    exact gr_ireturn dX3_less_23 rfl (Nat.le_refl _) (Nat.le_refl _) ⟨rfl, by rw [zless_p c_11]⟩
  · refine gr_iload_n dX3_less_14 rfl ?_
    refine gr_sipush (v := nI 32003) dX3_less_15 (by decide) ?_
    refine gr_iadd dX3_less_18 ?_
    refine gr_goto 23 dX3_less_19 (by decide) ?_
    exact gr_ireturn dX3_less_23 rfl (Nat.le_refl _) (Nat.le_refl _) ⟨rfl, by rw [zless_n c_11]⟩

theorem zpow_even (r q : zp) (e : Nat) (h : e % 2 = 0) : r * zpow (q * q) (e / 2 ^ 1) = r * zpow q e := by
  rw [zpow_sq]; congr 2; omega
theorem zpow_odd (r q : zp) (e : Nat) (h : e % 2 = 1) : r * q * zpow (q * q) (e / 2 ^ 1) = r * zpow q e := by
  rw [zpow_sq]
  have e1 : e = 2 * (e / 2 ^ 1) + 1 := by omega
  generalize 2 * (e / 2 ^ 1) = k at e1
  subst e1
  show r * q * zpow q k = r * (zpow q k * q)
  grind

set_option maxHeartbeats 4000000 in
set_option maxRecDepth 100000 in
theorem c_inverse_loop (l : Launch) (E : ga_E) (d : Nat) (h : ga_H) (x : zp) (n0 : Int32) : ∀ (e : Nat) (r q : zp), e < 32002 → r * zpow q e = zinv x → ga_G l E mX3_inverse (ga_Rm d 0 0) (ga_Z E (fun r h' => h' = h ∧ r = some (.int (nI (zinv x).val))) 0 0) 8 [some (.int n0), some (.int (nI r.val)), some (.int (nI q.val)), some (.int (nI e))] [] h 0 0 := by
  intro e
  induction e using Nat.strongRecOn with
  | _ e ih =>
    intro r q he hp
    refine gr_iload_n dX3_inverse_8 rfl ?_
    refine gr_ifleN 42 dX3_inverse_9 (by decide) (by omega) (fun c_9 => ?_) (fun c_9 => ?_)
    · refine gr_iload_n dX3_inverse_42 rfl ?_
      exact gr_ireturn dX3_inverse_43 rfl (Nat.le_refl _) (Nat.le_refl _) ⟨rfl, by subst c_9; rw [← hp, show zpow q 0 = 1 from rfl, Fin.mul_one]⟩
    · refine gr_iload_n dX3_inverse_12 rfl ?_
      refine gr_iconst (v := nI 1) dX3_inverse_13 rfl ?_
      refine gr_iand dX3_inverse_14 (gr_top (congrArg Value.int (pk_andN (n := e) (by omega) 1 (by decide))) ?_)
      refine gr_iconst (v := nI 1) dX3_inverse_15 rfl ?_
      refine gr_icmpneN 27 dX3_inverse_16 (by decide) (by omega) (by omega) (fun c_16 => ?_) (fun c_16 => ?_)
      · refine gr_iload_n dX3_inverse_27 rfl ?_
        refine gr_iload_n dX3_inverse_28 rfl ?_
        refine gr_mulP dX3_inverse_29 dX3_inverse_30 dX3_inverse_33 ?_
        refine gr_istore_n dX3_inverse_34 (by decide) rfl ?_
        refine gr_iload_n dX3_inverse_35 rfl ?_
        refine gr_iconst (v := nI 1) dX3_inverse_36 rfl ?_
        refine gr_ishr dX3_inverse_37 (gr_top (congrArg Value.int (pk_shrN (n := e) (by omega) _ 1 (by decide))) ?_)
        refine gr_istore_n dX3_inverse_38 (by decide) rfl ?_
        refine gr_goto 8 dX3_inverse_39 (by decide) ?_
        refine ih (e / 2 ^ 1) (by omega) _ _ (by omega) ?_
        rw [← hp]
        exact zpow_even _ _ e (by omega)
      · refine gr_iload_n dX3_inverse_19 rfl ?_
        refine gr_iload_n dX3_inverse_20 rfl ?_
        refine gr_mulP dX3_inverse_21 dX3_inverse_22 dX3_inverse_25 ?_
        refine gr_istore_n dX3_inverse_26 (by decide) rfl ?_
        refine gr_iload_n dX3_inverse_27 rfl ?_
        refine gr_iload_n dX3_inverse_28 rfl ?_
        refine gr_mulP dX3_inverse_29 dX3_inverse_30 dX3_inverse_33 ?_
        refine gr_istore_n dX3_inverse_34 (by decide) rfl ?_
        refine gr_iload_n dX3_inverse_35 rfl ?_
        refine gr_iconst (v := nI 1) dX3_inverse_36 rfl ?_
        refine gr_ishr dX3_inverse_37 (gr_top (congrArg Value.int (pk_shrN (n := e) (by omega) _ 1 (by decide))) ?_)
        refine gr_istore_n dX3_inverse_38 (by decide) rfl ?_
        refine gr_goto 8 dX3_inverse_39 (by decide) ?_
        refine ih (e / 2 ^ 1) (by omega) _ _ (by omega) ?_
        rw [← hp]
        exact zpow_odd _ _ e (by omega)

set_option maxHeartbeats 4000000 in
set_option maxRecDepth 100000 in
theorem c_inverse (l : Launch) (E : ga_E) (d : Nat) (h : ga_H) (x : zp) : ga_Ok l E d mX3_inverse [.int (nI x.val)] h 0 0 (fun r h' => h' = h ∧ r = some (.int (nI (zinv x).val))) := by
  refine ga_Ok.of 3 _ (by decide) rfl (Nat.le_of_ble_eq_true rfl) rfl ?_
  refine gr_iconst (v := nI (1 : zp).val) dX3_inverse_0 rfl ?_
  refine gr_istore_n dX3_inverse_1 (by decide) rfl ?_
  refine gr_iload_n dX3_inverse_2 rfl ?_
  refine gr_istore_n dX3_inverse_3 (by decide) rfl ?_
  refine gr_sipush (v := nI 32001) dX3_inverse_4 (by decide) ?_
  refine gr_istore_n dX3_inverse_7 (by decide) rfl ?_
  exact c_inverse_loop l E d h x _ 32001 1 x (by decide) (by show 1 * zinv x = zinv x; grind)
