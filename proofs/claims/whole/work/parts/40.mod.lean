/-! The reference: its block of cells, its small methods -/
def mdF (A : Nat → Nat) (s : Nat → Int32) : List Value := [.int (s 0), .int (s 1), .ref (A 1), .ref (A 2), .ref (A 3), .int (s 5), .ref (A 4), .ref (A 5), .int (s 8), .int (s 9), .ref (A 6), .int (s 11), .ref (A 7), .int (s 13), .ref (A 8), .ref (A 9), .ref (A 10), .ref (A 11), .ref (A 12), .ref (A 13), .ref (A 14), .ref (A 15)]
def mdC (E : ga_E) (A : Nat → Nat) (s : Nat → Int32) (fa si sr pu va ro pa ba ma ti ta im sh : Nat → zp) (pv : Nat → Option Nat) (un : Nat → zp) : Nat → va_E
  | 0 => ga_o 9 (mdF A s)
  | 1 => ga_f E 35 fa
  | 2 => ga_f E 11 si
  | 3 => ga_f E 12 sr
  | 4 => ga_f E 13 pu
  | 5 => ga_f E 320 va
  | 6 => ga_f E 169 ro
  | 7 => ga_f E 13 pa
  | 8 => ga_f E 8 ba
  | 9 => ga_f E 8 ma
  | 10 => ga_f E 1352 ti
  | 11 => ga_f E 266 ta
  | 12 => ga_f E 19 im
  | 13 => ga_f E 13 sh
  | 14 => ga_i E 13 (fun j => optI (pv j))
  | _ => ga_f E 13 un
def mdH (E : ga_E) (h : ga_H) (A : Nat → Nat) (s : Nat → Int32) (fa si sr pu va ro pa ba ma ti ta im sh : Nat → zp) (pv : Nat → Option Nat) (un : Nat → zp) : ga_H := ga_ov h A (mdC E A s fa si sr pu va ro pa ba ma ti ta im sh pv un) 16
section MD
variable {E : ga_E} {h : ga_H} {A : Nat → Nat} {s : Nat → Int32} {fa si sr pu va ro pa ba ma ti ta im sh un : Nat → zp} {pv : Nat → Option Nat}
theorem md_0 (hA : ga_inj A 16) : mdH E h A s fa si sr pu va ro pa ba ma ti ta im sh pv un (A 0) = some (ga_o 9 (mdF A s)) := ga_ov_at hA (by decide)

theorem md_1 (hA : ga_inj A 16) : mdH E h A s fa si sr pu va ro pa ba ma ti ta im sh pv un (A 1) = some (ga_f E 35 fa) := ga_ov_at hA (by decide)
theorem md_2 (hA : ga_inj A 16) : mdH E h A s fa si sr pu va ro pa ba ma ti ta im sh pv un (A 2) = some (ga_f E 11 si) := ga_ov_at hA (by decide)
theorem md_3 (hA : ga_inj A 16) : mdH E h A s fa si sr pu va ro pa ba ma ti ta im sh pv un (A 3) = some (ga_f E 12 sr) := ga_ov_at hA (by decide)
theorem md_4 (hA : ga_inj A 16) : mdH E h A s fa si sr pu va ro pa ba ma ti ta im sh pv un (A 4) = some (ga_f E 13 pu) := ga_ov_at hA (by decide)
theorem md_5 (hA : ga_inj A 16) : mdH E h A s fa si sr pu va ro pa ba ma ti ta im sh pv un (A 5) = some (ga_f E 320 va) := ga_ov_at hA (by decide)
theorem md_6 (hA : ga_inj A 16) : mdH E h A s fa si sr pu va ro pa ba ma ti ta im sh pv un (A 6) = some (ga_f E 169 ro) := ga_ov_at hA (by decide)
theorem md_7 (hA : ga_inj A 16) : mdH E h A s fa si sr pu va ro pa ba ma ti ta im sh pv un (A 7) = some (ga_f E 13 pa) := ga_ov_at hA (by decide)
theorem md_8 (hA : ga_inj A 16) : mdH E h A s fa si sr pu va ro pa ba ma ti ta im sh pv un (A 8) = some (ga_f E 8 ba) := ga_ov_at hA (by decide)
theorem md_9 (hA : ga_inj A 16) : mdH E h A s fa si sr pu va ro pa ba ma ti ta im sh pv un (A 9) = some (ga_f E 8 ma) := ga_ov_at hA (by decide)
theorem md_10 (hA : ga_inj A 16) : mdH E h A s fa si sr pu va ro pa ba ma ti ta im sh pv un (A 10) = some (ga_f E 1352 ti) := ga_ov_at hA (by decide)
theorem md_11 (hA : ga_inj A 16) : mdH E h A s fa si sr pu va ro pa ba ma ti ta im sh pv un (A 11) = some (ga_f E 266 ta) := ga_ov_at hA (by decide)
theorem md_12 (hA : ga_inj A 16) : mdH E h A s fa si sr pu va ro pa ba ma ti ta im sh pv un (A 12) = some (ga_f E 19 im) := ga_ov_at hA (by decide)
theorem md_13 (hA : ga_inj A 16) : mdH E h A s fa si sr pu va ro pa ba ma ti ta im sh pv un (A 13) = some (ga_f E 13 sh) := ga_ov_at hA (by decide)
theorem md_14 (hA : ga_inj A 16) : mdH E h A s fa si sr pu va ro pa ba ma ti ta im sh pv un (A 14) = some (ga_i E 13 (fun j => optI (pv j))) := ga_ov_at hA (by decide)
theorem md_15 (hA : ga_inj A 16) : mdH E h A s fa si sr pu va ro pa ba ma ti ta im sh pv un (A 15) = some (ga_f E 13 un) := ga_ov_at hA (by decide)
theorem md_o {q : Nat} (hq : ∀ k, k < 16 → q ≠ A k) : mdH E h A s fa si sr pu va ro pa ba ma ti ta im sh pv un q = h q := ga_ov_out hq
theorem md_w1 (hA : ga_inj A 16) (v : Nat → zp) : ga_up (mdH E h A s fa si sr pu va ro pa ba ma ti ta im sh pv un) (A 1) (ga_f E 35 v) = mdH E h A s v si sr pu va ro pa ba ma ti ta im sh pv un := (ga_ov_up hA (by decide)).trans (ga_ov_congr (fun j hj => by
  rcases j with _ | _ | _ | _ | _ | _ | _ | _ | _ | _ | _ | _ | _ | _ | _ | _ | j <;> first | rfl | omega))
theorem md_w2 (hA : ga_inj A 16) (v : Nat → zp) : ga_up (mdH E h A s fa si sr pu va ro pa ba ma ti ta im sh pv un) (A 2) (ga_f E 11 v) = mdH E h A s fa v sr pu va ro pa ba ma ti ta im sh pv un := (ga_ov_up hA (by decide)).trans (ga_ov_congr (fun j hj => by
  rcases j with _ | _ | _ | _ | _ | _ | _ | _ | _ | _ | _ | _ | _ | _ | _ | _ | j <;> first | rfl | omega))
theorem md_w3 (hA : ga_inj A 16) (v : Nat → zp) : ga_up (mdH E h A s fa si sr pu va ro pa ba ma ti ta im sh pv un) (A 3) (ga_f E 12 v) = mdH E h A s fa si v pu va ro pa ba ma ti ta im sh pv un := (ga_ov_up hA (by decide)).trans (ga_ov_congr (fun j hj => by
  rcases j with _ | _ | _ | _ | _ | _ | _ | _ | _ | _ | _ | _ | _ | _ | _ | _ | j <;> first | rfl | omega))
theorem md_w4 (hA : ga_inj A 16) (v : Nat → zp) : ga_up (mdH E h A s fa si sr pu va ro pa ba ma ti ta im sh pv un) (A 4) (ga_f E 13 v) = mdH E h A s fa si sr v va ro pa ba ma ti ta im sh pv un := (ga_ov_up hA (by decide)).trans (ga_ov_congr (fun j hj => by
  rcases j with _ | _ | _ | _ | _ | _ | _ | _ | _ | _ | _ | _ | _ | _ | _ | _ | j <;> first | rfl | omega))
theorem md_w5 (hA : ga_inj A 16) (v : Nat → zp) : ga_up (mdH E h A s fa si sr pu va ro pa ba ma ti ta im sh pv un) (A 5) (ga_f E 320 v) = mdH E h A s fa si sr pu v ro pa ba ma ti ta im sh pv un := (ga_ov_up hA (by decide)).trans (ga_ov_congr (fun j hj => by
  rcases j with _ | _ | _ | _ | _ | _ | _ | _ | _ | _ | _ | _ | _ | _ | _ | _ | j <;> first | rfl | omega))
theorem md_w6 (hA : ga_inj A 16) (v : Nat → zp) : ga_up (mdH E h A s fa si sr pu va ro pa ba ma ti ta im sh pv un) (A 6) (ga_f E 169 v) = mdH E h A s fa si sr pu va v pa ba ma ti ta im sh pv un := (ga_ov_up hA (by decide)).trans (ga_ov_congr (fun j hj => by
  rcases j with _ | _ | _ | _ | _ | _ | _ | _ | _ | _ | _ | _ | _ | _ | _ | _ | j <;> first | rfl | omega))
theorem md_w7 (hA : ga_inj A 16) (v : Nat → zp) : ga_up (mdH E h A s fa si sr pu va ro pa ba ma ti ta im sh pv un) (A 7) (ga_f E 13 v) = mdH E h A s fa si sr pu va ro v ba ma ti ta im sh pv un := (ga_ov_up hA (by decide)).trans (ga_ov_congr (fun j hj => by
  rcases j with _ | _ | _ | _ | _ | _ | _ | _ | _ | _ | _ | _ | _ | _ | _ | _ | j <;> first | rfl | omega))
theorem md_w8 (hA : ga_inj A 16) (v : Nat → zp) : ga_up (mdH E h A s fa si sr pu va ro pa ba ma ti ta im sh pv un) (A 8) (ga_f E 8 v) = mdH E h A s fa si sr pu va ro pa v ma ti ta im sh pv un := (ga_ov_up hA (by decide)).trans (ga_ov_congr (fun j hj => by
  rcases j with _ | _ | _ | _ | _ | _ | _ | _ | _ | _ | _ | _ | _ | _ | _ | _ | j <;> first | rfl | omega))
theorem md_w9 (hA : ga_inj A 16) (v : Nat → zp) : ga_up (mdH E h A s fa si sr pu va ro pa ba ma ti ta im sh pv un) (A 9) (ga_f E 8 v) = mdH E h A s fa si sr pu va ro pa ba v ti ta im sh pv un := (ga_ov_up hA (by decide)).trans (ga_ov_congr (fun j hj => by
  rcases j with _ | _ | _ | _ | _ | _ | _ | _ | _ | _ | _ | _ | _ | _ | _ | _ | j <;> first | rfl | omega))
theorem md_w10 (hA : ga_inj A 16) (v : Nat → zp) : ga_up (mdH E h A s fa si sr pu va ro pa ba ma ti ta im sh pv un) (A 10) (ga_f E 1352 v) = mdH E h A s fa si sr pu va ro pa ba ma v ta im sh pv un := (ga_ov_up hA (by decide)).trans (ga_ov_congr (fun j hj => by
  rcases j with _ | _ | _ | _ | _ | _ | _ | _ | _ | _ | _ | _ | _ | _ | _ | _ | j <;> first | rfl | omega))
theorem md_w11 (hA : ga_inj A 16) (v : Nat → zp) : ga_up (mdH E h A s fa si sr pu va ro pa ba ma ti ta im sh pv un) (A 11) (ga_f E 266 v) = mdH E h A s fa si sr pu va ro pa ba ma ti v im sh pv un := (ga_ov_up hA (by decide)).trans (ga_ov_congr (fun j hj => by
  rcases j with _ | _ | _ | _ | _ | _ | _ | _ | _ | _ | _ | _ | _ | _ | _ | _ | j <;> first | rfl | omega))
theorem md_w12 (hA : ga_inj A 16) (v : Nat → zp) : ga_up (mdH E h A s fa si sr pu va ro pa ba ma ti ta im sh pv un) (A 12) (ga_f E 19 v) = mdH E h A s fa si sr pu va ro pa ba ma ti ta v sh pv un := (ga_ov_up hA (by decide)).trans (ga_ov_congr (fun j hj => by
  rcases j with _ | _ | _ | _ | _ | _ | _ | _ | _ | _ | _ | _ | _ | _ | _ | _ | j <;> first | rfl | omega))
theorem md_w13 (hA : ga_inj A 16) (v : Nat → zp) : ga_up (mdH E h A s fa si sr pu va ro pa ba ma ti ta im sh pv un) (A 13) (ga_f E 13 v) = mdH E h A s fa si sr pu va ro pa ba ma ti ta im v pv un := (ga_ov_up hA (by decide)).trans (ga_ov_congr (fun j hj => by
  rcases j with _ | _ | _ | _ | _ | _ | _ | _ | _ | _ | _ | _ | _ | _ | _ | _ | j <;> first | rfl | omega))
theorem md_w14 (hA : ga_inj A 16) (v : Nat → Option Nat) : ga_up (mdH E h A s fa si sr pu va ro pa ba ma ti ta im sh pv un) (A 14) (ga_i E 13 (fun j => optI (v j))) = mdH E h A s fa si sr pu va ro pa ba ma ti ta im sh v un := (ga_ov_up hA (by decide)).trans (ga_ov_congr (fun j hj => by
  rcases j with _ | _ | _ | _ | _ | _ | _ | _ | _ | _ | _ | _ | _ | _ | _ | _ | j <;> first | rfl | omega))
theorem md_w15 (hA : ga_inj A 16) (v : Nat → zp) : ga_up (mdH E h A s fa si sr pu va ro pa ba ma ti ta im sh pv un) (A 15) (ga_f E 13 v) = mdH E h A s fa si sr pu va ro pa ba ma ti ta im sh pv v := (ga_ov_up hA (by decide)).trans (ga_ov_congr (fun j hj => by
  rcases j with _ | _ | _ | _ | _ | _ | _ | _ | _ | _ | _ | _ | _ | _ | _ | _ | j <;> first | rfl | omega))
theorem md_s0 (hA : ga_inj A 16) (v : Int32) : ga_up (mdH E h A s fa si sr pu va ro pa ba ma ti ta im sh pv un) (A 0) (ga_o 9 ((mdF A s).set 0 (.int v))) = mdH E h A (va_up s 0 v) fa si sr pu va ro pa ba ma ti ta im sh pv un := (ga_ov_up hA (by decide)).trans (ga_ov_congr (fun j hj => by
  rcases j with _ | _ | _ | _ | _ | _ | _ | _ | _ | _ | _ | _ | _ | _ | _ | _ | j <;> first | rfl | omega))
theorem md_s1 (hA : ga_inj A 16) (v : Int32) : ga_up (mdH E h A s fa si sr pu va ro pa ba ma ti ta im sh pv un) (A 0) (ga_o 9 ((mdF A s).set 1 (.int v))) = mdH E h A (va_up s 1 v) fa si sr pu va ro pa ba ma ti ta im sh pv un := (ga_ov_up hA (by decide)).trans (ga_ov_congr (fun j hj => by
  rcases j with _ | _ | _ | _ | _ | _ | _ | _ | _ | _ | _ | _ | _ | _ | _ | _ | j <;> first | rfl | omega))
theorem md_s5 (hA : ga_inj A 16) (v : Int32) : ga_up (mdH E h A s fa si sr pu va ro pa ba ma ti ta im sh pv un) (A 0) (ga_o 9 ((mdF A s).set 5 (.int v))) = mdH E h A (va_up s 5 v) fa si sr pu va ro pa ba ma ti ta im sh pv un := (ga_ov_up hA (by decide)).trans (ga_ov_congr (fun j hj => by
  rcases j with _ | _ | _ | _ | _ | _ | _ | _ | _ | _ | _ | _ | _ | _ | _ | _ | j <;> first | rfl | omega))
theorem md_s8 (hA : ga_inj A 16) (v : Int32) : ga_up (mdH E h A s fa si sr pu va ro pa ba ma ti ta im sh pv un) (A 0) (ga_o 9 ((mdF A s).set 8 (.int v))) = mdH E h A (va_up s 8 v) fa si sr pu va ro pa ba ma ti ta im sh pv un := (ga_ov_up hA (by decide)).trans (ga_ov_congr (fun j hj => by
  rcases j with _ | _ | _ | _ | _ | _ | _ | _ | _ | _ | _ | _ | _ | _ | _ | _ | j <;> first | rfl | omega))
theorem md_s9 (hA : ga_inj A 16) (v : Int32) : ga_up (mdH E h A s fa si sr pu va ro pa ba ma ti ta im sh pv un) (A 0) (ga_o 9 ((mdF A s).set 9 (.int v))) = mdH E h A (va_up s 9 v) fa si sr pu va ro pa ba ma ti ta im sh pv un := (ga_ov_up hA (by decide)).trans (ga_ov_congr (fun j hj => by
  rcases j with _ | _ | _ | _ | _ | _ | _ | _ | _ | _ | _ | _ | _ | _ | _ | _ | j <;> first | rfl | omega))
theorem md_s11 (hA : ga_inj A 16) (v : Int32) : ga_up (mdH E h A s fa si sr pu va ro pa ba ma ti ta im sh pv un) (A 0) (ga_o 9 ((mdF A s).set 11 (.int v))) = mdH E h A (va_up s 11 v) fa si sr pu va ro pa ba ma ti ta im sh pv un := (ga_ov_up hA (by decide)).trans (ga_ov_congr (fun j hj => by
  rcases j with _ | _ | _ | _ | _ | _ | _ | _ | _ | _ | _ | _ | _ | _ | _ | _ | j <;> first | rfl | omega))
theorem md_s13 (hA : ga_inj A 16) (v : Int32) : ga_up (mdH E h A s fa si sr pu va ro pa ba ma ti ta im sh pv un) (A 0) (ga_o 9 ((mdF A s).set 13 (.int v))) = mdH E h A (va_up s 13 v) fa si sr pu va ro pa ba ma ti ta im sh pv un := (ga_ov_up hA (by decide)).trans (ga_ov_congr (fun j hj => by
  rcases j with _ | _ | _ | _ | _ | _ | _ | _ | _ | _ | _ | _ | _ | _ | _ | _ | j <;> first | rfl | omega))
end MD
section RL
variable {l : Launch} {E : ga_E} {M : ga_M} {R : Room} {Z : List Frame → Array Value → State → State → Prop} {pc : Nat} {lv : List (Option Value)} {st : List Value} {h : ga_H} {cells slots : Nat}
theorem gr_remL {m index : Nat} {x : zp} (d2 : decode M.2.1 pc = .ok (.ldc2_w index, 3)) (hw : Cond.constantLong M.1.cls index 32003 ∈ ga_Gl) (d3 : decode M.2.1 (pc + 3) = .ok (.lrem, 1)) (hm : m < 2 ^ 63) (hx : zo m = x) (k : ga_G l E M R Z (pc + 3 + 1) lv (.long (lN x.val) :: st) h cells slots) : ga_G l E M R Z pc lv (.long (lN m) :: st) h cells slots := by
  refine gr_ldc2 d2 hw (gr_top (congrArg Value.long (by decide : (32003 : Int64) = lN 32003)) ?_)
  refine gr_lremN d3 hm (by decide) (by decide) ?_
  rw [show m % 32003 = x.val by rw [← hx]; rfl]
  exact k
end RL
theorem zo_mm (a b : zp) : zo (a.val * b.val) = a * b := by rw [zo_mul, zo_self, zo_self]
theorem zmul_ll (a b : zp) : a.val * b.val < 2 ^ 31 := by have := zmul_lt a b; omega

set_option maxHeartbeats 4000000 in
set_option maxRecDepth 100000 in
theorem c_mpow_loop (l : Launch) (E : ga_E) (d : Nat) (h : ga_H) (v : zp) (n : Nat) (hn : n < 2 ^ 31) : ∀ (g k : Nat), k + g = n → ga_G l E mX9_power (ga_Rm d 0 0) (ga_Z E (fun r0 h' => h' = h ∧ r0 = some (.int (nI (zpow v n).val))) 0 0) 5 [some (.int (nI v.val)), some (.int (nI n)), some (.long (lN (zpow v k).val)), none, some (.int (nI k))] [] h 0 0 := by
  intro g
  induction g with
  | zero =>
    intro k hk
    refine gr_iload dX9_power_5 rfl (gr_iload_n dX9_power_7 rfl ?_)
    refine gr_icmpgeN 26 dX9_power_8 (by decide) (by omega) (by omega) (fun _ => ?_) (fun z => absurd z (by omega))
    refine gr_lload_n dX9_power_26 rfl (gr_l2iN dX9_power_27 ?_)
    exact gr_ireturn dX9_power_28 rfl (Nat.le_refl _) (Nat.le_refl _) ⟨rfl, by rw [show k = n by omega]⟩
  | succ g ih =>
    intro k hk
    refine gr_iload dX9_power_5 rfl (gr_iload_n dX9_power_7 rfl ?_)
    refine gr_icmpgeN 26 dX9_power_8 (by decide) (by omega) (by omega) (fun z => absurd z (by omega)) (fun _ => ?_)
    refine gr_lload_n dX9_power_11 rfl ?_
    refine gr_iload_n dX9_power_12 rfl ?_
    refine gr_i2lN dX9_power_13 (by have := zl v; omega) ?_
    refine gr_lmulN dX9_power_14 ?_
    refine gr_remL dX9_power_15 kl_X9_78 dX9_power_18 (by have := zmul_ll (zpow v k) v; omega) (zo_mm _ _) ?_
    refine gr_lstore_n dX9_power_19 (by decide) rfl ?_
    refine gr_iinc (v := nI (_ + 1)) dX9_power_20 rfl (nI_1 _) (by decide) rfl ?_
    refine gr_goto 5 dX9_power_23 (by decide) ?_
    exact ih (k + 1) (by omega)

set_option maxHeartbeats 4000000 in
set_option maxRecDepth 100000 in
theorem c_mpow (l : Launch) (E : ga_E) (d : Nat) (h : ga_H) (v : zp) (n : Nat) (hn : n < 2 ^ 31) : ga_Ok l E d mX9_power [.int (nI v.val), .int (nI n)] h 0 0 (fun r0 h' => h' = h ∧ r0 = some (.int (nI (zpow v n).val))) := by
  refine ga_Ok.of 3 _ (by decide) rfl (Nat.le_of_ble_eq_true rfl) rfl ?_
  refine gr_lconst (v := lN (zpow v 0).val) dX9_power_0 rfl ?_
  refine gr_lstore_n dX9_power_1 (by decide) rfl ?_
  refine gr_iconst (v := nI 0) dX9_power_2 rfl ?_
  refine gr_istore dX9_power_3 (by decide) rfl ?_
  exact c_mpow_loop l E d h v n hn n 0 (by omega)

set_option maxHeartbeats 4000000 in
set_option maxRecDepth 100000 in
theorem c_minv_loop (l : Launch) (E : ga_E) (d : Nat) (h : ga_H) (x : zp) (n0 : Int32) : ∀ (e : Nat) (r q : zp), e < 32002 → r * zpow q e = zinv x → ga_G l E mX9_inverse (ga_Rm d 0 0) (ga_Z E (fun r h' => h' = h ∧ r = some (.int (nI (zinv x).val))) 0 0) 10 [some (.int n0), some (.long (lN r.val)), none, some (.long (lN q.val)), none, some (.int (nI e))] [] h 0 0 := by
  intro e
  induction e using Nat.strongRecOn with
  | _ e ih =>
    intro r q he hp
    refine gr_iload dX9_inverse_10 rfl ?_
    refine gr_ifleN 48 dX9_inverse_12 (by decide) (by omega) (fun c_12 => ?_) (fun c_12 => ?_)
    · refine gr_lload_n dX9_inverse_48 rfl ?_
      refine gr_l2iN dX9_inverse_49 ?_
      exact gr_ireturn dX9_inverse_50 rfl (Nat.le_refl _) (Nat.le_refl _) ⟨rfl, by subst c_12; rw [← hp, show zpow q 0 = 1 from rfl, Fin.mul_one]⟩
    · refine gr_iload dX9_inverse_15 rfl ?_
      refine gr_iconst (v := nI 2) dX9_inverse_17 rfl ?_
      refine gr_iremN dX9_inverse_18 (by omega) (by omega) (by omega) ?_
      refine gr_iconst (v := nI 1) dX9_inverse_19 rfl ?_
      refine gr_icmpneN 31 dX9_inverse_20 (by decide) (by omega) (by omega) (fun c_20 => ?_) (fun c_20 => ?_)
      · refine gr_lload_n dX9_inverse_31 rfl ?_
        refine gr_lload_n dX9_inverse_32 rfl ?_
        refine gr_lmulN dX9_inverse_33 ?_
        refine gr_remL dX9_inverse_34 kl_X9_78 dX9_inverse_37 (by have := zmul_ll q q; omega) (zo_mm _ _) ?_
        refine gr_lstore_n dX9_inverse_38 (by decide) rfl ?_
        refine gr_iload dX9_inverse_39 rfl ?_
        refine gr_iconst (v := nI 2) dX9_inverse_41 rfl ?_
        refine gr_idivN dX9_inverse_42 (by omega) (by omega) (by omega) ?_
        refine gr_istore dX9_inverse_43 (by decide) rfl ?_
        refine gr_goto 10 dX9_inverse_45 (by decide) ?_
        refine ih (e / 2) (by omega) _ _ (by omega) ?_
        rw [← hp]
        exact zpow_even _ _ e (by omega)
      · refine gr_lload_n dX9_inverse_23 rfl ?_
        refine gr_lload_n dX9_inverse_24 rfl ?_
        refine gr_lmulN dX9_inverse_25 ?_
        refine gr_remL dX9_inverse_26 kl_X9_78 dX9_inverse_29 (by have := zmul_ll r q; omega) (zo_mm _ _) ?_
        refine gr_lstore_n dX9_inverse_30 (by decide) rfl ?_
        refine gr_lload_n dX9_inverse_31 rfl ?_
        refine gr_lload_n dX9_inverse_32 rfl ?_
        refine gr_lmulN dX9_inverse_33 ?_
        refine gr_remL dX9_inverse_34 kl_X9_78 dX9_inverse_37 (by have := zmul_ll q q; omega) (zo_mm _ _) ?_
        refine gr_lstore_n dX9_inverse_38 (by decide) rfl ?_
        refine gr_iload dX9_inverse_39 rfl ?_
        refine gr_iconst (v := nI 2) dX9_inverse_41 rfl ?_
        refine gr_idivN dX9_inverse_42 (by omega) (by omega) (by omega) ?_
        refine gr_istore dX9_inverse_43 (by decide) rfl ?_
        refine gr_goto 10 dX9_inverse_45 (by decide) ?_
        refine ih (e / 2) (by omega) _ _ (by omega) ?_
        rw [← hp]
        exact zpow_odd _ _ e (by omega)

set_option maxHeartbeats 4000000 in
set_option maxRecDepth 100000 in
theorem c_minv (l : Launch) (E : ga_E) (d : Nat) (h : ga_H) (x : zp) : ga_Ok l E d mX9_inverse [.int (nI x.val)] h 0 0 (fun r h' => h' = h ∧ r = some (.int (nI (zinv x).val))) := by
  refine ga_Ok.of 5 _ (by decide) rfl (Nat.le_of_ble_eq_true rfl) rfl ?_
  refine gr_lconst (v := lN (1 : zp).val) dX9_inverse_0 rfl ?_
  refine gr_lstore_n dX9_inverse_1 (by decide) rfl ?_
  refine gr_iload_n dX9_inverse_2 rfl ?_
  refine gr_i2lN dX9_inverse_3 (by have := zl x; omega) ?_
  refine gr_lstore_n dX9_inverse_4 (by decide) rfl ?_
  refine gr_sipush (v := nI 32001) dX9_inverse_5 (by decide) ?_
  refine gr_istore dX9_inverse_8 (by decide) rfl ?_
  exact c_minv_loop l E d h x _ 32001 1 x (by decide) (by show 1 * zinv x = zinv x; grind)

set_option maxHeartbeats 4000000 in
set_option maxRecDepth 100000 in
theorem c_modulo (l : Launch) (E : ga_E) (d : Nat) (h : ga_H) (x : Int64) : ga_Ok l E d mX9_modulo [.long x] h 0 0 (fun r h' => h' = h ∧ r = some (.int (nI (zL x).val))) := by
  refine ga_Ok.of 2 _ (by decide) rfl (Nat.le_of_ble_eq_true rfl) rfl ?_
  refine gr_lload_n dX9_modulo_0 rfl ?_
  refine gr_ldc2 dX9_modulo_1 kl_X9_78 ?_
  refine gr_lrem dX9_modulo_4 (by decide) ?_
  refine gr_lstore_n dX9_modulo_5 (by decide) rfl ?_
  refine gr_lload_n dX9_modulo_6 rfl ?_
  refine gr_lconst (v := 0) dX9_modulo_7 rfl ?_
  refine gr_lcmp dX9_modulo_8 ?_
  refine gr_ifge 20 dX9_modulo_9 (by decide) (fun c_9 => ?_) (fun c_9 => ?_)
  · refine gr_lload_n dX9_modulo_20 rfl (gr_top (congrArg Value.long (zL_pos (Int64.le_iff_toInt_le.mp ((lg_cmp_ge _ _).mp c_9)))) ?_)
    refine gr_l2iN dX9_modulo_21 ?_
    exact gr_ireturn dX9_modulo_22 rfl (Nat.le_refl _) (Nat.le_refl _) ⟨rfl, rfl⟩
  · refine gr_lload_n dX9_modulo_12 rfl ?_
    refine gr_ldc2 dX9_modulo_13 kl_X9_78 ?_
    refine gr_ladd dX9_modulo_16 (gr_top (congrArg Value.long (zL_neg (Int.not_le.mp (fun z => c_9 ((lg_cmp_ge _ _).mpr (Int64.le_iff_toInt_le.mpr z)))))) ?_)
    refine gr_goto 21 dX9_modulo_17 (by decide) ?_
    refine gr_l2iN dX9_modulo_21 ?_
    exact gr_ireturn dX9_modulo_22 rfl (Nat.le_refl _) (Nat.le_refl _) ⟨rfl, rfl⟩

set_option maxHeartbeats 4000000 in
set_option maxRecDepth 100000 in
theorem c_mat_loop (l : Launch) (E : ga_E) (d : Nat) (h : ga_H) (t a f n N x : Nat) (v : Nat → zp) (ha : h a = some (ga_f E N v)) (hN : N < 2 ^ 31) (hf : f + n ≤ N) (hx : x < 60000) (res : zp) : ∀ k : Nat, k ≤ n → ∀ q : zp, phor (fun j => v (f + j)) (zo x) k q = res → ga_G l E mX9_at (ga_Rm d 0 0) (ga_Z E (fun r0 h' => h' = h ∧ r0 = some (.int (nI res.val))) 0 0) 8 [some (.ref t), some (.ref a), some (.int (nI f)), some (.int (nI n)), some (.int (nI x)), some (.long (lN q.val)), none, some (.int (nI k - nI 1))] [] h 0 0 := by
  intro k
  induction k with
  | zero =>
    intro hk q hres
    refine gr_iload dX9_at_8 rfl (gr_iflt 39 dX9_at_10 (by decide) (fun _ => ?_) (fun z => absurd ((dn_neg (by decide)).mpr rfl) z))
    refine gr_lload dX9_at_39 rfl (gr_l2iN dX9_at_41 ?_)
    exact gr_ireturn dX9_at_42 rfl (Nat.le_refl _) (Nat.le_refl _) ⟨rfl, by rw [← hres]; rfl⟩
  | succ j ih =>
    intro hk q hres
    rw [dn_top]
    refine gr_iload dX9_at_8 rfl (gr_ifltN dX9_at_10 39 (by decide) (by omega) ?_)
    refine gr_lload dX9_at_13 rfl ?_
    refine gr_iload dX9_at_15 rfl ?_
    refine gr_i2lN dX9_at_17 (by omega) ?_
    refine gr_lmulN dX9_at_18 ?_
    refine gr_aload_n dX9_at_19 rfl ?_
    refine gr_iload_n dX9_at_20 rfl ?_
    refine gr_iload dX9_at_21 rfl ?_
    refine gr_iaddN dX9_at_23 ?_
    refine gr_ialoadF dX9_at_24 ha (by omega) (by omega) ?_
    refine gr_i2lN dX9_at_25 (by have := zl (v (f + j)); omega) ?_
    refine gr_laddN dX9_at_26 ?_
    refine gr_remL dX9_at_27 kl_X9_78 dX9_at_30 (by have := zl (v (f + j)); have h8 : q.val * x ≤ 32003 * 60000 := Nat.mul_le_mul (Nat.le_of_lt (zl q)) (Nat.le_of_lt hx); omega) (zo_sx _ _ _) ?_
    refine gr_lstore dX9_at_31 (by decide) rfl ?_
    refine gr_iinc (v := nI j - nI 1) dX9_at_33 rfl (dn_step j) (by decide) rfl ?_
    refine gr_goto 8 dX9_at_36 (by decide) ?_
    exact ih (by omega) _ hres

set_option maxHeartbeats 4000000 in
set_option maxRecDepth 100000 in
theorem c_mat (l : Launch) (E : ga_E) (d : Nat) (h : ga_H) (t a f n N x : Nat) (v : Nat → zp) (ha : h a = some (ga_f E N v)) (hN : N < 2 ^ 31) (hf : f + n ≤ N) (hx : x < 60000) : ga_Ok l E d mX9_at [.ref t, .ref a, .int (nI f), .int (nI n), .int (nI x)] h 0 0 (fun r0 h' => h' = h ∧ r0 = some (.int (nI (phor (fun j => v (f + j)) (zo x) n 0).val))) := by
  refine ga_Ok.of 3 _ (by decide) rfl (Nat.le_of_ble_eq_true rfl) rfl ?_
  refine gr_lconst (v := lN (0 : zp).val) dX9_at_0 rfl ?_
  refine gr_lstore dX9_at_1 (by decide) rfl ?_
  refine gr_iload_n dX9_at_3 rfl ?_
  refine gr_iconst (v := nI 1) dX9_at_4 rfl ?_
  refine gr_isub dX9_at_5 ?_
  refine gr_istore dX9_at_6 (by decide) rfl ?_
  exact c_mat_loop l E d h t a f n N x v ha hN hf hx _ n (Nat.le_refl n) 0 rfl
