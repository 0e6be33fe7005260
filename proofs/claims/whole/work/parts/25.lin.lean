/-! LinearSystem: its block of cells, freeLine, scaleLine, clearColumn -/
def optI (o : Option Nat) : Int32 := match o with
  | none => -1
  | some i => nI i
def bI (b : Bool) : Int32 := if b then nI 1 else nI 0
theorem ga_ov_base {h : ga_H} {A : Nat → Nat} {c : Nat → va_E} {q : Nat} {x : va_E} : ∀ {n : Nat}, (∀ k, k < n → q ≠ A k) → ga_up (ga_ov h A c n) q x = ga_ov (ga_up h q x) A c n
  | 0, _ => rfl
  | n + 1, hq => by
    show ga_up (ga_up (ga_ov h A c n) (A n) (c n)) q x = ga_up (ga_ov (ga_up h q x) A c n) (A n) (c n)
    rw [ga_up_comm _ _ _ (fun z => hq n (Nat.lt_succ_self n) z.symm), ga_ov_base (fun k hk => hq k (Nat.lt_succ_of_lt hk))]
def lsR (A : Nat → Nat) (N o : Nat) : Nat → Option Nat := fun i => if i < N then some (A (o + i)) else none
def lsC (E : ga_E) (A : Nat → Nat) (C : Nat → Nat → zp) (u : Nat → Bool) (pv : Nat → Option Nat) (t : Nat → zp) : Nat → va_E
  | 0 => ga_o 4 [.ref (A 1), .ref (A 21), .ref (A 22), .ref (A 23)]
  | 1 => ga_ii E 19 (lsR A 19 2)
  | k + 2 => if k < 19 then ga_f E 14 (C k) else if k = 19 then ga_z E 19 (fun j => bI (u j)) else if k = 20 then ga_i E 13 (fun j => optI (pv j)) else ga_f E 19 t
def lsH (E : ga_E) (h : ga_H) (A : Nat → Nat) (C : Nat → Nat → zp) (u : Nat → Bool) (pv : Nat → Option Nat) (t : Nat → zp) : ga_H := ga_ov h A (lsC E A C u pv t) 24
section LS
variable {E : ga_E} {h : ga_H} {A : Nat → Nat} {C : Nat → Nat → zp} {u : Nat → Bool} {pv : Nat → Option Nat} {t : Nat → zp}
theorem ls_0 (hA : ga_inj A 24) : lsH E h A C u pv t (A 0) = some (ga_o 4 [.ref (A 1), .ref (A 21), .ref (A 22), .ref (A 23)]) := ga_ov_at hA (by decide)
theorem ls_1 (hA : ga_inj A 24) : lsH E h A C u pv t (A 1) = some (ga_ii E 19 (lsR A 19 2)) := ga_ov_at hA (by decide)
theorem ls_r (hA : ga_inj A 24) {i : Nat} (hi : i < 19) : lsH E h A C u pv t (A (2 + i)) = some (ga_f E 14 (C i)) := by
  have e : lsC E A C u pv t (2 + i) = ga_f E 14 (C i) := by rw [Nat.add_comm]; exact if_pos hi
  rw [← e]
  exact ga_ov_at hA (by omega)
theorem ls_21 (hA : ga_inj A 24) : lsH E h A C u pv t (A 21) = some (ga_z E 19 (fun j => bI (u j))) := ga_ov_at hA (by decide)
theorem ls_22 (hA : ga_inj A 24) : lsH E h A C u pv t (A 22) = some (ga_i E 13 (fun j => optI (pv j))) := ga_ov_at hA (by decide)
theorem ls_23 (hA : ga_inj A 24) : lsH E h A C u pv t (A 23) = some (ga_f E 19 t) := ga_ov_at hA (by decide)
theorem ls_R {i : Nat} (hi : i < 19) : lsR A 19 2 i = some (A (2 + i)) := if_pos hi
theorem ls_wr (hA : ga_inj A 24) {i : Nat} (hi : i < 19) (v : Nat → zp) : ga_up (lsH E h A C u pv t) (A (2 + i)) (ga_f E 14 v) = lsH E h A (va_up C i v) u pv t := by
  unfold lsH
  rw [ga_ov_up hA (by omega)]
  refine ga_ov_congr (fun j hj => ?_)
  by_cases e : j = 2 + i
  · subst e
    rw [show va_up (lsC E A C u pv t) (2 + i) (ga_f E 14 v) (2 + i) = ga_f E 14 v from if_pos rfl, Nat.add_comm 2 i]
    show _ = if i < 19 then ga_f E 14 (va_up C i v i) else _
    rw [if_pos hi, show va_up C i v i = v from if_pos rfl]
  · rw [show va_up (lsC E A C u pv t) (2 + i) (ga_f E 14 v) j = lsC E A C u pv t j from if_neg e]
    match j, e with
    | 0, _ => rfl
    | 1, _ => rfl
    | k + 2, e =>
      show (if k < 19 then ga_f E 14 (C k) else _) = if k < 19 then ga_f E 14 (va_up C i v k) else _
      rw [show va_up C i v k = C k from if_neg (by omega)]
theorem ls_w21 (hA : ga_inj A 24) (v : Nat → Bool) : ga_up (lsH E h A C u pv t) (A 21) (ga_z E 19 (fun j => bI (v j))) = lsH E h A C v pv t := by
  unfold lsH
  rw [ga_ov_up hA (by decide)]
  refine ga_ov_congr (fun j hj => ?_)
  by_cases e : j = 21
  · subst e; rfl
  · rw [show va_up (lsC E A C u pv t) 21 (ga_z E 19 (fun j => bI (v j))) j = lsC E A C u pv t j from if_neg e]
    match j, e with
    | 0, _ => rfl
    | 1, _ => rfl
    | k + 2, e =>
      show (if k < 19 then ga_f E 14 (C k) else if k = 19 then _ else _) = if k < 19 then ga_f E 14 (C k) else if k = 19 then _ else _
      rw [if_neg (show ¬ k = 19 by omega), if_neg (show ¬ k = 19 by omega)]
theorem ls_w22 (hA : ga_inj A 24) (v : Nat → Option Nat) : ga_up (lsH E h A C u pv t) (A 22) (ga_i E 13 (fun j => optI (v j))) = lsH E h A C u v t := by
  unfold lsH
  rw [ga_ov_up hA (by decide)]
  refine ga_ov_congr (fun j hj => ?_)
  by_cases e : j = 22
  · subst e; rfl
  · rw [show va_up (lsC E A C u pv t) 22 (ga_i E 13 (fun j => optI (v j))) j = lsC E A C u pv t j from if_neg e]
    match j, e with
    | 0, _ => rfl
    | 1, _ => rfl
    | k + 2, e =>
      show (if k < 19 then ga_f E 14 (C k) else if k = 19 then _ else if k = 20 then _ else _) = if k < 19 then ga_f E 14 (C k) else if k = 19 then _ else if k = 20 then _ else _
      rw [if_neg (show ¬ k = 20 by omega), if_neg (show ¬ k = 20 by omega)]
theorem ls_w23 (hA : ga_inj A 24) (v : Nat → zp) : ga_up (lsH E h A C u pv t) (A 23) (ga_f E 19 v) = lsH E h A C u pv v := by
  unfold lsH
  rw [ga_ov_up hA (by decide)]
  refine ga_ov_congr (fun j hj => ?_)
  by_cases e : j = 23
  · subst e; rfl
  · rw [show va_up (lsC E A C u pv t) 23 (ga_f E 19 v) j = lsC E A C u pv t j from if_neg e]
    match j, e, hj with
    | 0, _, _ => rfl
    | 1, _, _ => rfl
    | k + 2, e, hj =>
      show (if k < 19 then ga_f E 14 (C k) else if k = 19 then _ else if k = 20 then _ else ga_f E 19 t) = if k < 19 then ga_f E 14 (C k) else if k = 19 then _ else if k = 20 then _ else ga_f E 19 v
      by_cases c1 : k < 19
      · rw [if_pos c1, if_pos c1]
      · by_cases c2 : k = 19
        · rw [if_neg c1, if_neg c1, if_pos c2, if_pos c2]
        · rw [if_neg c1, if_neg c1, if_neg c2, if_neg c2, if_pos (show k = 20 by omega), if_pos (show k = 20 by omega)]
end LS
theorem upd_b (u : Nat → Bool) (k : Nat) (b : Bool) : upd (fun j => bI (u j)) k (bI b) = fun j => bI (va_up u k b j) := by
  funext j; unfold upd va_up; by_cases e : j = k <;> simp [e]
theorem upd_o (u : Nat → Option Nat) (k : Nat) (b : Option Nat) : upd (fun j => optI (u j)) k (optI b) = fun j => optI (va_up u k b j) := by
  funext j; unfold upd va_up; by_cases e : j = k <;> simp [e]
theorem bI_nar (b : Bool) : vp_nar .boolean (bI b) = bI b := by cases b <;> decide

/-- what freeLine answers: an unused line with a number in the column, or that there is none -/
def FL (u : Nat → Bool) (C : Nat → Nat → zp) (c : Nat) (o : Option Nat) : Prop := (o = none ∧ ∀ i, i < 19 → u i = true ∨ C i c = 0) ∨ ∃ i, o = some i ∧ i < 19 ∧ u i = false ∧ C i c ≠ 0

set_option maxHeartbeats 4000000 in
set_option maxRecDepth 100000 in
theorem c_fl_loop (l : Launch) (E : ga_E) (d : Nat) (h : ga_H) (A : Nat → Nat) (hA : ga_inj A 24) (C : Nat → Nat → zp) (u : Nat → Bool) (pv : Nat → Option Nat) (t : Nat → zp) (c : Nat) (hc : c < 13) : ∀ (g i : Nat), i + g = 19 → (∀ j, j < i → u j = true ∨ C j c = 0) → ga_G l E mX2_freeLine (ga_Rm d 0 0) (ga_Z E (fun r0 h' => h' = lsH E h A C u pv t ∧ ∃ o, r0 = some (.int (optI o)) ∧ FL u C c o) 0 0) 2 [some (.ref (A 0)), some (.int (nI c)), some (.int (nI i))] [] (lsH E h A C u pv t) 0 0 := by
  intro g
  induction g with
  | zero =>
    intro i hi hlt
    refine gr_iload_n dX2_freeLine_2 rfl (gr_bipush (v := nI 19) dX2_freeLine_3 (by decide) ?_)
    refine gr_icmpgeN 36 dX2_freeLine_5 (by decide) (by omega) (by decide) (fun _ => ?_) (fun z => absurd z (by omega))
    refine gr_iconst (v := -1) dX2_freeLine_36 (by decide) ?_
    exact gr_ireturn dX2_freeLine_37 rfl (Nat.le_refl _) (Nat.le_refl _) ⟨rfl, none, rfl, Or.inl ⟨rfl, fun j hj => hlt j (by omega)⟩⟩
  | succ g ih =>
    intro i hi hlt
    refine gr_iload_n dX2_freeLine_2 rfl (gr_bipush (v := nI 19) dX2_freeLine_3 (by decide) ?_)
    refine gr_icmpgeN 36 dX2_freeLine_5 (by decide) (by omega) (by decide) (fun z => absurd z (by omega)) (fun _ => ?_)
    refine gr_aload_n dX2_freeLine_8 rfl ?_
    refine gr_getf dX2_freeLine_9 cls_X2 1 (by decide) fl_X2_16 (ls_0 hA) rfl ?_
    refine gr_iload_n dX2_freeLine_12 rfl ?_
    refine gr_zaload dX2_freeLine_13 (ls_21 hA) (by omega) (by decide) ?_
    refine gr_ifne 30 dX2_freeLine_14 (by decide) (fun c_14 => ?_) (fun c_14 => ?_)
    · refine gr_iinc (v := nI (_ + 1)) dX2_freeLine_30 rfl (nI_1 _) (by decide) rfl ?_
      refine gr_goto 2 dX2_freeLine_33 (by decide) ?_
      refine ih (i + 1) (by omega) (fun j hj => ?_)
      by_cases e : j = i
      · subst e
        first
          | exact Or.inr (Fin.ext c_25)
          | exact Or.inl (by cases e : u j with
              | true => rfl
              | false => rw [e] at c_14; exact absurd rfl c_14)
      · exact hlt j (by omega)
    · refine gr_aload_n dX2_freeLine_17 rfl ?_
      refine gr_getf dX2_freeLine_18 cls_X2 0 (by decide) fl_X2_11 (ls_0 hA) rfl ?_
      refine gr_iload_n dX2_freeLine_21 rfl ?_
      refine gr_aaloadI dX2_freeLine_22 (ls_1 hA) (by omega) (by decide) (ls_R (by omega)) ?_
      refine gr_iload_n dX2_freeLine_23 rfl ?_
      refine gr_ialoadF dX2_freeLine_24 (ls_r hA (by omega)) (by omega) (by decide) ?_
      refine gr_ifeqN 30 dX2_freeLine_25 (by decide) (by have := zl (C i c); omega) (fun c_25 => ?_) (fun c_25 => ?_)
      · refine gr_iinc (v := nI (_ + 1)) dX2_freeLine_30 rfl (nI_1 _) (by decide) rfl ?_
        refine gr_goto 2 dX2_freeLine_33 (by decide) ?_
        refine ih (i + 1) (by omega) (fun j hj => ?_)
        by_cases e : j = i
        · subst e
          first
            | exact Or.inr (Fin.ext c_25)
            | exact Or.inl (by cases e : u j with
                | true => rfl
                | false => rw [e] at c_14; exact absurd rfl c_14)
        · exact hlt j (by omega)
      · refine gr_iload_n dX2_freeLine_28 rfl ?_
        exact gr_ireturn dX2_freeLine_29 rfl (Nat.le_refl _) (Nat.le_refl _) ⟨rfl, some i, rfl, Or.inr ⟨i, rfl, by omega, by cases e : u i with
              | false => rfl
              | true => rw [e] at c_14; exact absurd c_14 (by decide), fun z => c_25 (by rw [z]; rfl)⟩⟩

set_option maxHeartbeats 4000000 in
set_option maxRecDepth 100000 in
theorem c_freeLine (l : Launch) (E : ga_E) (d : Nat) (h : ga_H) (A : Nat → Nat) (hA : ga_inj A 24) (C : Nat → Nat → zp) (u : Nat → Bool) (pv : Nat → Option Nat) (t : Nat → zp) (c : Nat) (hc : c < 13) : ga_Ok l E d mX2_freeLine [.ref (A 0), .int (nI c)] (lsH E h A C u pv t) 0 0 (fun r0 h' => h' = lsH E h A C u pv t ∧ ∃ o, r0 = some (.int (optI o)) ∧ FL u C c o) := by
  refine ga_Ok.of 1 _ (by decide) rfl (Nat.le_of_ble_eq_true rfl) rfl ?_
  refine gr_iconst (v := nI 0) dX2_freeLine_0 rfl (gr_istore_n dX2_freeLine_1 (by decide) rfl ?_)
  exact c_fl_loop l E d h A hA C u pv t c hc 19 0 (by omega) (fun j hj => absurd hj (by omega))

def sclI (v : Nat → zp) (z : zp) (k : Nat) : Nat → zp := fun j => if j < k then v j * z else v j
def scl (C : Nat → Nat → zp) (i : Nat) (z : zp) : Nat → Nat → zp := va_up C i (sclI (C i) z 14)
theorem sclI_up (v : Nat → zp) (z : zp) (k : Nat) : va_up (sclI v z k) k (sclI v z k k * z) = sclI v z (k + 1) := by
  funext j; unfold va_up sclI
  by_cases e : j = k
  · subst e; simp
  · by_cases h : j < k
    · simp [e, h, Nat.lt_succ_of_lt h]
    · simp [e, h, show ¬ j < k + 1 by omega]
theorem sclI_0 (v : Nat → zp) (z : zp) : sclI v z 0 = v := by
  funext j; unfold sclI; simp
theorem va_uu {α : Type} (f : Nat → α) (k : Nat) (v w : α) : va_up (va_up f k v) k w = va_up f k w := by
  funext j; unfold va_up; by_cases e : j = k <;> simp [e]
theorem va_uself {α : Type} (f : Nat → α) (k : Nat) : va_up f k (f k) = f := by
  funext j; unfold va_up; by_cases e : j = k <;> simp [e]
theorem va_us {α : Type} {f : Nat → α} {k : Nat} {v : α} : va_up f k v k = v := if_pos rfl
theorem va_un {α : Type} {f : Nat → α} {k j : Nat} {v : α} (h : j ≠ k) : va_up f k v j = f j := if_neg h

set_option maxHeartbeats 4000000 in
set_option maxRecDepth 100000 in
theorem c_sc_loop (l : Launch) (E : ga_E) (d : Nat) (h : ga_H) (A : Nat → Nat) (hA : ga_inj A 24) (C : Nat → Nat → zp) (u : Nat → Bool) (pv : Nat → Option Nat) (t : Nat → zp) (i : Nat) (hi : i < 19) (z : zp) : ∀ (g k : Nat), k + g = 14 → ga_G l E mX2_scaleLine (ga_Rm d 0 0) (ga_Z E (fun r0 h' => h' = lsH E h A (scl C i z) u pv t ∧ r0 = none) 0 0) 2 [some (.ref (A 0)), some (.int (nI i)), some (.int (nI z.val)), some (.int (nI k))] [] (lsH E h A (va_up C i (sclI (C i) z k)) u pv t) 0 0 := by
  intro g
  induction g with
  | zero =>
    intro k hk
    refine gr_iload_n dX2_scaleLine_2 rfl (gr_bipush (v := nI 13) dX2_scaleLine_3 (by decide) ?_)
    refine gr_icmpgtN 36 dX2_scaleLine_5 (by decide) (by omega) (by decide) (fun _ => ?_) (fun z => absurd z (by omega))
    exact gr_return dX2_scaleLine_36 rfl (Nat.le_refl _) (Nat.le_refl _) ⟨by rw [show k = 14 by omega]; rfl, rfl⟩
  | succ g ih =>
    intro k hk
    refine gr_iload_n dX2_scaleLine_2 rfl (gr_bipush (v := nI 13) dX2_scaleLine_3 (by decide) ?_)
    refine gr_icmpgtN 36 dX2_scaleLine_5 (by decide) (by omega) (by decide) (fun z => absurd z (by omega)) (fun _ => ?_)
    refine gr_aload_n dX2_scaleLine_8 rfl ?_
    refine gr_getf dX2_scaleLine_9 cls_X2 0 (by decide) fl_X2_11 (ls_0 hA) rfl ?_
    refine gr_iload_n dX2_scaleLine_12 rfl ?_
    refine gr_aaloadI dX2_scaleLine_13 (ls_1 hA) (by omega) (by decide) (ls_R (by omega)) ?_
    refine gr_iload_n dX2_scaleLine_14 rfl ?_
    refine gr_aload_n dX2_scaleLine_15 rfl ?_
    refine gr_getf dX2_scaleLine_16 cls_X2 0 (by decide) fl_X2_11 (ls_0 hA) rfl ?_
    refine gr_iload_n dX2_scaleLine_19 rfl ?_
    refine gr_aaloadI dX2_scaleLine_20 (ls_1 hA) (by omega) (by decide) (ls_R (by omega)) ?_
    refine gr_iload_n dX2_scaleLine_21 rfl ?_
    refine gr_ialoadF dX2_scaleLine_22 (ls_r hA (by omega)) (by omega) (by decide) ?_
    rw [va_us]
    refine gr_iload_n dX2_scaleLine_23 rfl ?_
    refine gr_mulP dX2_scaleLine_24 dX2_scaleLine_25 dX2_scaleLine_28 ?_
    refine gr_iastoreF dX2_scaleLine_29 (ls_r hA (by omega)) (by omega) (by decide) ?_
    rw [ls_wr hA (by omega), va_us, va_uu, sclI_up]
    refine gr_iinc (v := nI (_ + 1)) dX2_scaleLine_30 rfl (nI_1 _) (by decide) rfl ?_
    refine gr_goto 2 dX2_scaleLine_33 (by decide) ?_
    exact ih (k + 1) (by omega)

set_option maxHeartbeats 4000000 in
set_option maxRecDepth 100000 in
theorem c_scaleLine (l : Launch) (E : ga_E) (d : Nat) (h : ga_H) (A : Nat → Nat) (hA : ga_inj A 24) (C : Nat → Nat → zp) (u : Nat → Bool) (pv : Nat → Option Nat) (t : Nat → zp) (i : Nat) (hi : i < 19) (z : zp) : ga_Ok l E d mX2_scaleLine [.ref (A 0), .int (nI i), .int (nI z.val)] (lsH E h A C u pv t) 0 0 (fun r0 h' => h' = lsH E h A (scl C i z) u pv t ∧ r0 = none) := by
  refine ga_Ok.of 1 _ (by decide) rfl (Nat.le_of_ble_eq_true rfl) rfl ?_
  refine gr_iconst (v := nI 0) dX2_scaleLine_0 rfl (gr_istore_n dX2_scaleLine_1 (by decide) rfl ?_)
  refine gr_h (show lsH E h A C u pv t = lsH E h A (va_up C i (sclI (C i) z 0)) u pv t by rw [sclI_0, va_uself]) ?_
  exact c_sc_loop l E d h A hA C u pv t i hi z 14 0 (by omega)

/-- a line less a multiple of the pivot's, from column c on, k columns of it *)-/
def clI (v w : Nat → zp) (s : zp) (c k : Nat) : Nat → zp := fun j => if c ≤ j ∧ j < k then v j - s * w j else v j
def clr (C : Nat → Nat → zp) (c p : Nat) : Nat → Nat → zp := fun i => if i < 19 ∧ i ≠ p then clI (C i) (C p) (C i c) c 14 else C i
def clrI (C : Nat → Nat → zp) (c p n : Nat) : Nat → Nat → zp := fun i => if i < n ∧ i ≠ p then clI (C i) (C p) (C i c) c 14 else C i
theorem clI_up {v w : Nat → zp} {s : zp} {c k : Nat} (h : c ≤ k) : va_up (clI v w s c k) k (v k - s * w k) = clI v w s c (k + 1) := by
  funext j; unfold va_up clI
  by_cases e : j = k
  · subst e; rw [if_pos rfl, if_pos (by omega)]
  · by_cases h2 : c ≤ j ∧ j < k
    · rw [if_neg e, if_pos h2, if_pos (by omega)]
    · rw [if_neg e, if_neg h2, if_neg (by omega)]
theorem clI_at {v w : Nat → zp} {s : zp} {c k : Nat} : clI v w s c k k = v k := if_neg (by omega)
theorem clI_c (v w : Nat → zp) (s : zp) (c : Nat) : clI v w s c c = v := by
  funext j; unfold clI; rw [if_neg (by omega)]
theorem clI_z {v w : Nat → zp} {s : zp} {c k : Nat} (h : s = 0) : clI v w s c k = v := by
  funext j; unfold clI
  split
  · rw [h]; grind
  · rfl
theorem clrI_0 (C : Nat → Nat → zp) (c p : Nat) : clrI C c p 0 = C := by
  funext i; unfold clrI; rw [if_neg (by omega)]
theorem clrI_p (C : Nat → Nat → zp) (c p n : Nat) : clrI C c p n p = C p := if_neg (by omega)
theorem clrI_n (C : Nat → Nat → zp) (c p n : Nat) : clrI C c p n n = C n := if_neg (by omega)
theorem clrI_up {C : Nat → Nat → zp} {c p n : Nat} (h : n ≠ p) : va_up (clrI C c p n) n (clI (C n) (C p) (C n c) c 14) = clrI C c p (n + 1) := by
  funext i; unfold va_up clrI
  by_cases e : i = n
  · subst e; rw [if_pos rfl, if_pos ⟨by omega, h⟩]
  · by_cases h2 : i < n ∧ i ≠ p
    · rw [if_neg e, if_pos h2, if_pos ⟨by omega, h2.2⟩]
    · rw [if_neg e, if_neg h2, if_neg (fun z => h2 ⟨by omega, z.2⟩)]
theorem clrI_skip {C : Nat → Nat → zp} {c p n : Nat} (h : n = p ∨ C n c = 0) : clrI C c p n = clrI C c p (n + 1) := by
  funext i; unfold clrI
  by_cases e : i = n
  · subst e
    rw [if_neg (by omega)]
    rcases h with h | h
    · rw [if_neg (by omega)]
    · split
      · rw [clI_z h]
      · rfl
  · by_cases h2 : i < n ∧ i ≠ p
    · rw [if_pos h2, if_pos ⟨by omega, h2.2⟩]
    · rw [if_neg h2, if_neg (fun z => h2 ⟨by omega, z.2⟩)]

set_option maxHeartbeats 4000000 in
set_option maxRecDepth 100000 in
theorem c_cl_inner (l : Launch) (E : ga_E) (d : Nat) (h : ga_H) (A : Nat → Nat) (hA : ga_inj A 24) (C : Nat → Nat → zp) (u : Nat → Bool) (pv : Nat → Option Nat) (t : Nat → zp) (c p : Nat) (hc : c < 13) (hp : p < 19) (n : Nat) (hn : n < 19) (hnp : n ≠ p) (kx : ∀ x5 : Option Value, ga_G l E mX2_clearColumn (ga_Rm (d + 1) 0 0) (ga_Z E (fun r0 h' => h' = lsH E h A (clr C c p) u pv t ∧ r0 = none) 0 0) 79 [some (.ref (A 0)), some (.int (nI c)), some (.int (nI p)), some (.int (nI n)), some (.int (nI (C n c).val)), x5] [] (lsH E h A (clrI C c p (n + 1)) u pv t) 0 0) : ∀ (g k : Nat), k + g = 14 → c ≤ k → ga_G l E mX2_clearColumn (ga_Rm (d + 1) 0 0) (ga_Z E (fun r0 h' => h' = lsH E h A (clr C c p) u pv t ∧ r0 = none) 0 0) 34 [some (.ref (A 0)), some (.int (nI c)), some (.int (nI p)), some (.int (nI n)), some (.int (nI (C n c).val)), some (.int (nI k))] [] (lsH E h A (va_up (clrI C c p n) n (clI (C n) (C p) (C n c) c k)) u pv t) 0 0 := by
  intro g
  induction g with
  | zero =>
    intro k hk hck
    refine gr_iload dX2_clearColumn_34 rfl (gr_bipush (v := nI 13) dX2_clearColumn_36 (by decide) ?_)
    refine gr_icmpgtN 79 dX2_clearColumn_38 (by decide) (by omega) (by decide) (fun _ => ?_) (fun z => absurd z (by omega))
    rw [show k = 14 by omega, clrI_up hnp]
    exact kx _
  | succ g ih =>
    intro k hk hck
    refine gr_iload dX2_clearColumn_34 rfl (gr_bipush (v := nI 13) dX2_clearColumn_36 (by decide) ?_)
    refine gr_icmpgtN 79 dX2_clearColumn_38 (by decide) (by omega) (by decide) (fun z => absurd z (by omega)) (fun _ => ?_)
    refine gr_aload_n dX2_clearColumn_41 rfl ?_
    refine gr_getf dX2_clearColumn_42 cls_X2 0 (by decide) fl_X2_11 (ls_0 hA) rfl ?_
    refine gr_iload_n dX2_clearColumn_45 rfl ?_
    refine gr_aaloadI dX2_clearColumn_46 (ls_1 hA) (by omega) (by decide) (ls_R (by omega)) ?_
    refine gr_iload dX2_clearColumn_47 rfl ?_
    refine gr_aload_n dX2_clearColumn_49 rfl ?_
    refine gr_getf dX2_clearColumn_50 cls_X2 0 (by decide) fl_X2_11 (ls_0 hA) rfl ?_
    refine gr_iload_n dX2_clearColumn_53 rfl ?_
    refine gr_aaloadI dX2_clearColumn_54 (ls_1 hA) (by omega) (by decide) (ls_R (by omega)) ?_
    refine gr_iload dX2_clearColumn_55 rfl ?_
    refine gr_ialoadF dX2_clearColumn_57 (ls_r hA (by omega)) (by omega) (by decide) ?_
    rw [va_us, clI_at]
    refine gr_iload dX2_clearColumn_58 rfl ?_
    refine gr_aload_n dX2_clearColumn_60 rfl ?_
    refine gr_getf dX2_clearColumn_61 cls_X2 0 (by decide) fl_X2_11 (ls_0 hA) rfl ?_
    refine gr_iload_n dX2_clearColumn_64 rfl ?_
    refine gr_aaloadI dX2_clearColumn_65 (ls_1 hA) (by omega) (by decide) (ls_R (by omega)) ?_
    refine gr_iload dX2_clearColumn_66 rfl ?_
    refine gr_ialoadF dX2_clearColumn_68 (ls_r hA (by omega)) (by omega) (by decide) ?_
    rw [va_un (fun z => hnp z.symm), clrI_p]
    refine gr_callS dX2_clearColumn_69 (c_less l E d _ (C n k) (C n c) (C p k)) ysX3_less ⟨ml_X2_68, sm_X3_less⟩ rfl rfl (Nat.le_of_ble_eq_true rfl) ⟨(Nat.le_refl _), (Nat.le_refl _)⟩ ⟨(Nat.le_refl _), (Nat.le_refl _)⟩ (fun r0 h1 hp9 => ?_)
    obtain ⟨e1, rfl⟩ := hp9
    subst h1
    refine gr_iastoreF dX2_clearColumn_72 (ls_r hA (by omega)) (by omega) (by decide) ?_
    rw [ls_wr hA (by omega), va_us, va_uu, clI_up (by omega)]
    refine gr_iinc (v := nI (_ + 1)) dX2_clearColumn_73 rfl (nI_1 _) (by decide) rfl ?_
    refine gr_goto 34 dX2_clearColumn_76 (by decide) ?_
    exact ih (k + 1) (by omega) (by omega)

set_option maxHeartbeats 4000000 in
set_option maxRecDepth 100000 in
theorem c_cl_outer (l : Launch) (E : ga_E) (d : Nat) (h : ga_H) (A : Nat → Nat) (hA : ga_inj A 24) (C : Nat → Nat → zp) (u : Nat → Bool) (pv : Nat → Option Nat) (t : Nat → zp) (c p : Nat) (hc : c < 13) (hp : p < 19) : ∀ (g n : Nat) (x4 x5 : Option Value), n + g = 19 → ga_G l E mX2_clearColumn (ga_Rm (d + 1) 0 0) (ga_Z E (fun r0 h' => h' = lsH E h A (clr C c p) u pv t ∧ r0 = none) 0 0) 2 [some (.ref (A 0)), some (.int (nI c)), some (.int (nI p)), some (.int (nI n)), x4, x5] [] (lsH E h A (clrI C c p n) u pv t) 0 0 := by
  intro g
  induction g with
  | zero =>
    intro n x4 x5 hn
    refine gr_iload_n dX2_clearColumn_2 rfl (gr_bipush (v := nI 19) dX2_clearColumn_3 (by decide) ?_)
    refine gr_icmpgeN 85 dX2_clearColumn_5 (by decide) (by omega) (by decide) (fun _ => ?_) (fun z => absurd z (by omega))
    exact gr_return dX2_clearColumn_85 rfl (Nat.le_refl _) (Nat.le_refl _) ⟨by rw [show n = 19 by omega]; rfl, rfl⟩
  | succ g ih =>
    intro n x4 x5 hn
    refine gr_iload_n dX2_clearColumn_2 rfl (gr_bipush (v := nI 19) dX2_clearColumn_3 (by decide) ?_)
    refine gr_icmpgeN 85 dX2_clearColumn_5 (by decide) (by omega) (by decide) (fun z => absurd z (by omega)) (fun _ => ?_)
    refine gr_aload_n dX2_clearColumn_8 rfl ?_
    refine gr_getf dX2_clearColumn_9 cls_X2 0 (by decide) fl_X2_11 (ls_0 hA) rfl ?_
    refine gr_iload_n dX2_clearColumn_12 rfl ?_
    refine gr_aaloadI dX2_clearColumn_13 (ls_1 hA) (by omega) (by decide) (ls_R (by omega)) ?_
    refine gr_iload_n dX2_clearColumn_14 rfl ?_
    refine gr_ialoadF dX2_clearColumn_15 (ls_r hA (by omega)) (by omega) (by decide) ?_
    rw [clrI_n]
    refine gr_istore dX2_clearColumn_16 (by decide) rfl ?_
    refine gr_iload_n dX2_clearColumn_18 rfl ?_
    refine gr_iload_n dX2_clearColumn_19 rfl ?_
    refine gr_icmpeqN 79 dX2_clearColumn_20 (by decide) (by omega) (by omega) (fun c_20 => ?_) (fun c_20 => ?_)
    · rw [clrI_skip (Or.inl c_20)]
      refine gr_iinc (v := nI (_ + 1)) dX2_clearColumn_79 rfl (nI_1 _) (by decide) rfl ?_
      refine gr_goto 2 dX2_clearColumn_82 (by decide) ?_
      exact ih (n + 1) _ _ (by omega)
    · refine gr_iload dX2_clearColumn_23 rfl ?_
      refine gr_ifneN 31 dX2_clearColumn_25 (by decide) (by have := zl (C n c); omega) (fun c_25 => ?_) (fun c_25 => ?_)
      · refine gr_iload_n dX2_clearColumn_31 rfl ?_
        refine gr_istore dX2_clearColumn_32 (by decide) rfl ?_
        refine gr_h (show lsH E h A (clrI C c p n) u pv t = lsH E h A (va_up (clrI C c p n) n (clI (C n) (C p) (C n c) c c)) u pv t by rw [clI_c, ← clrI_n C c p n, va_uself]) ?_
        refine c_cl_inner l E d h A hA C u pv t c p hc hp n (by omega) c_20 (fun y5 => ?_) (14 - c) c (by omega) (Nat.le_refl _)
        refine gr_iinc (v := nI (_ + 1)) dX2_clearColumn_79 rfl (nI_1 _) (by decide) rfl ?_
        refine gr_goto 2 dX2_clearColumn_82 (by decide) ?_
        exact ih (n + 1) _ _ (by omega)
      · refine gr_goto 79 dX2_clearColumn_28 (by decide) ?_
        rw [clrI_skip (Or.inr (Fin.ext c_25))]
        refine gr_iinc (v := nI (_ + 1)) dX2_clearColumn_79 rfl (nI_1 _) (by decide) rfl ?_
        refine gr_goto 2 dX2_clearColumn_82 (by decide) ?_
        exact ih (n + 1) _ _ (by omega)

set_option maxHeartbeats 4000000 in
set_option maxRecDepth 100000 in
theorem c_clearColumn (l : Launch) (E : ga_E) (d : Nat) (h : ga_H) (A : Nat → Nat) (hA : ga_inj A 24) (C : Nat → Nat → zp) (u : Nat → Bool) (pv : Nat → Option Nat) (t : Nat → zp) (c p : Nat) (hc : c < 13) (hp : p < 19) : ga_Ok l E (d + 1) mX2_clearColumn [.ref (A 0), .int (nI c), .int (nI p)] (lsH E h A C u pv t) 0 0 (fun r0 h' => h' = lsH E h A (clr C c p) u pv t ∧ r0 = none) := by
  refine ga_Ok.of 3 _ (by decide) rfl (Nat.le_of_ble_eq_true rfl) rfl ?_
  refine gr_iconst (v := nI 0) dX2_clearColumn_0 rfl (gr_istore_n dX2_clearColumn_1 (by decide) rfl ?_)
  refine gr_h (show lsH E h A C u pv t = lsH E h A (clrI C c p 0) u pv t by rw [clrI_0]) ?_
  exact c_cl_outer l E d h A hA C u pv t c p hc hp 19 0 _ _ (by omega)
