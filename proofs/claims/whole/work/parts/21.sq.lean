/-! Roots: squares, powers of a linear polynomial -/
/-- 0 from n on -/
def pz (n : Nat) (v : Nat → zp) : Prop := ∀ j, n ≤ j → v j = 0
def pcut (n : Nat) (v : Nat → zp) : Nat → zp := fun j => if j < n then v j else 0
theorem pcut_z (n : Nat) (v : Nat → zp) : pz n (pcut n v) := fun j hj => if_neg (by omega)
theorem pz_up {n k : Nat} {v : Nat → zp} {x : zp} (h : pz n v) (hk : k < n) : pz n (va_up v k x) := fun j hj => (if_neg (by omega) : va_up v k x j = v j).trans (h j hj)
theorem pz_mon {n : Nat} {v : Nat → zp} (h : pz n v) : pz n (pmon v n) := fun j hj => by
  unfold pmon
  have := pdeg_le v n
  rw [if_neg (by omega)]
  exact h j hj
theorem pz_mul {n : Nat} {v : Nat → zp} {c : zp} (h : pz n v) : pz n (pmul v n c) := fun j hj => by
  unfold pmul
  rw [if_neg (by omega)]
  exact h j hj
theorem pz_step {n k p : Nat} {v w : Nat → zp} (h : pz n v) (hp : p < n) : pz n (pstep v w k p) := fun j hj => by
  unfold pstep
  rw [if_neg (by omega)]
  exact h j hj
theorem pz_prd {n k : Nat} {w : Nat → zp} : ∀ {q : Nat} {v : Nat → zp}, q ≤ n → pz n v → pz n (prd w k q v)
  | 0, _, _, h => h
  | q + 1, v, hq, h => by
    unfold prd
    split
    · exact h
    · exact pz_prd (by omega) (pz_step h (by omega))
theorem pz_red {n m : Nat} {v w : Nat → zp} (h : pz n v) : pz n (pred v n w m) := by
  unfold pred
  split
  · exact h
  · exact pz_prd (Nat.le_refl n) h
/-- the square of the first t numbers, in 13 places -/
def psqI (w : Nat → zp) (t i j : Nat) : Nat → zp := fun n => if n < 13 then zs i (fun a => zs t (fun b => if a + b = n then w a * w b else 0)) + zs j (fun b => if i + b = n then w i * w b else 0) else 0
def psq (w : Nat → zp) : Nat → zp := psqI w (pdeg w 7) (pdeg w 7) 0
def rqS (w m : Nat → zp) : Nat → zp := pred (psq w) 13 m 7
def rqW (w m : Nat → zp) : Nat → zp := pcut 7 (rqS w m)
theorem psqI_z (w : Nat → zp) (t i j : Nat) : pz 13 (psqI w t i j) := fun n hn => if_neg (by omega)
theorem psqI_up {w : Nat → zp} {t i j : Nat} (h : i + j < 13) : va_up (psqI w t i j) (i + j) (psqI w t i j (i + j) + w i * w j) = psqI w t i (j + 1) := by
  funext n; unfold va_up psqI
  by_cases e : n = i + j
  · subst e
    rw [if_pos rfl, if_pos h, if_pos h]
    show _ = _ + (zs j _ + (if i + j = i + j then w i * w j else 0))
    rw [if_pos rfl]
    grind
  · rw [if_neg e]
    split
    · show _ = _ + (zs j _ + (if i + j = n then w i * w j else 0))
      rw [if_neg (fun z => e z.symm)]
      grind
    · rfl
theorem psqI_next (w : Nat → zp) (t i : Nat) : psqI w t i t = psqI w t (i + 1) 0 := by
  funext n; unfold psqI
  split
  · show zs i _ + zs t _ = (zs i _ + zs t _) + 0
    grind
  · rfl
theorem psqI_00 (w : Nat → zp) (t : Nat) : psqI w t 0 0 = fun _ => 0 := by
  funext n; unfold psqI
  split <;> rfl
theorem zmad2 (s a b : zp) : zo (s.val + a.val * b.val) = s + a * b := by rw [zo_add, zo_mul, zo_self, zo_self, zo_self]
theorem cpy_f (f g : Nat → zp) (n : Nat) : va_cpy (fun j => nI (f j).val) (fun j => nI (g j).val) 0 0 n = fun j => nI ((fun j => if j < n then f j else g j) j).val := by
  funext j
  by_cases h : j < n
  · rw [pk_cpy_in (by omega) (by omega)]; simp [h]
  · rw [pk_cpy_out (by omega)]; simp [h]
theorem cpy_z {f g : Nat → zp} {n : Nat} (h : pz n g) : (fun j => if j < n then f j else g j) = pcut n f := by
  funext j; unfold pcut
  by_cases c : j < n
  · simp [c]
  · simp [c, h j (by omega)]
theorem pcut_self {n : Nat} {v : Nat → zp} (h : pz n v) : pcut n v = v := by
  funext j; unfold pcut
  by_cases c : j < n
  · simp [c]
  · simp [c, h j (by omega)]
section RC
variable {l : Launch} {E : ga_E} {M : ga_M} {R : Room} {Z : List Frame → Array Value → State → State → Prop} {pc : Nat} {lv : List (Option Value)} {st : List Value} {h : ga_H} {cells slots : Nat}
theorem gr_copyF {index a0 a n0 n1 n : Nat} {f g0 : Nat → zp} (hd : decode M.2.1 pc = .ok (.invokestatic index, 3)) (hw : Cond.methodLink M.1.cls index arraycopyName ∈ ga_Gl) (ha0 : h a0 = some (ga_f E n0 f)) (ha : h a = some (ga_f E n1 g0)) (h0 : n ≤ n0) (h1 : n1 = n) (hn : n0 < 2 ^ 31) (hR : 1 ≤ R.frames ∧ 64 ≤ R.locals) (hW : (st.map fun v => v.category).sum ≤ 8) (hz : pz n g0)
    (k : ga_G l E M R Z (pc + 3) lv st (ga_up h a (ga_f E n1 (pcut n f))) cells slots) : ga_G l E M R Z pc lv (.int (nI n) :: .int (nI 0) :: .ref a :: .int (nI 0) :: .ref a0 :: st) h cells slots := by
  refine gr_copy hd hw ha0 ha h0 (by omega) hn (by omega) hR hW ?_
  rw [cpy_f, cpy_z hz]
  exact k
end RC
theorem ro_m {E : ga_E} {h : ga_H} {A : Nat → Nat} {n mi : Nat} {f r p i w s m : Nat → zp} (hA : ga_inj A 7) (hm : mi = 2 ∧ m = r ∨ mi = 3 ∧ m = p) : roH E h A n f r p i w s (A mi) = some (ga_f E 7 m) := by
  rcases hm with ⟨rfl, rfl⟩ | ⟨rfl, rfl⟩
  · exact ro_2 hA
  · exact ro_3 hA
theorem ro_mne {A : Nat → Nat} {mi k : Nat} {r p m : Nat → zp} (hA : ga_inj A 7) (hm : mi = 2 ∧ m = r ∨ mi = 3 ∧ m = p) (hk : k < 7) (h2 : k ≠ 2) (h3 : k ≠ 3) : A mi ≠ A k := hA.ne (by omega) hk (by omega)

set_option maxHeartbeats 4000000 in
set_option maxRecDepth 100000 in
theorem c_sq_inner (l : Launch) (E : ga_E) (d : Nat) (h : ga_H) (A : Nat → Nat) (n : Nat) (f r p i w s : Nat → zp) (hA : ga_inj A 7) (hw : pz 7 w) (hs : pz 13 s) (t a : Nat) (ht : t < 7) (ha : a ≤ t) (k : ∀ x4 : Option Value, ga_G l E mX5_squarePower (ga_Rm (d + 2) 0 0) (ga_Z E (fun r0 h' => h' = roH E h A n f r p i w (psq w) ∧ r0 = none) 0 0) 86 [some (.ref (A 0)), some (.int (nI t)), some (.int (nI a)), x4] [] (roH E h A n f r p i w (psqI w (t + 1) (a + 1) 0)) 0 0) : ∀ (g b : Nat), b + g = t + 1 → ga_G l E mX5_squarePower (ga_Rm (d + 2) 0 0) (ga_Z E (fun r0 h' => h' = roH E h A n f r p i w (psq w) ∧ r0 = none) 0 0) 41 [some (.ref (A 0)), some (.int (nI t)), some (.int (nI a)), some (.int (nI b))] [] (roH E h A n f r p i w (psqI w (t + 1) a b)) 0 0 := by
  intro g
  induction g with
  | zero =>
    intro b hb
    refine gr_iload_n dX5_squarePower_41 rfl (gr_iload_n dX5_squarePower_42 rfl ?_)
    refine gr_icmpgtN 86 dX5_squarePower_43 (by decide) (by omega) (by omega) (fun _ => ?_) (fun z => absurd z (by omega))
    rw [show b = t + 1 by omega, psqI_next]
    exact k _
  | succ g ih =>
    intro b hb
    refine gr_iload_n dX5_squarePower_41 rfl (gr_iload_n dX5_squarePower_42 rfl ?_)
    refine gr_icmpgtN 86 dX5_squarePower_43 (by decide) (by omega) (by omega) (fun z => absurd z (by omega)) (fun _ => ?_)
    refine gr_aload_n dX5_squarePower_46 rfl ?_
    refine gr_getf dX5_squarePower_47 cls_X5 5 (by decide) fl_X5_27 (ro_0 hA) rfl ?_
    refine gr_iload_n dX5_squarePower_50 rfl ?_
    refine gr_iload_n dX5_squarePower_51 rfl ?_
    refine gr_iaddN dX5_squarePower_52 ?_
    refine gr_aload_n dX5_squarePower_53 rfl ?_
    refine gr_getf dX5_squarePower_54 cls_X5 5 (by decide) fl_X5_27 (ro_0 hA) rfl ?_
    refine gr_iload_n dX5_squarePower_57 rfl ?_
    refine gr_iload_n dX5_squarePower_58 rfl ?_
    refine gr_iaddN dX5_squarePower_59 ?_
    refine gr_ialoadF dX5_squarePower_60 (ro_6 hA) (by omega) (by decide) ?_
    refine gr_aload_n dX5_squarePower_61 rfl ?_
    refine gr_getf dX5_squarePower_62 cls_X5 4 (by decide) fl_X5_24 (ro_0 hA) rfl ?_
    refine gr_iload_n dX5_squarePower_65 rfl ?_
    refine gr_ialoadF dX5_squarePower_66 (ro_5 hA) (by omega) (by decide) ?_
    refine gr_aload_n dX5_squarePower_67 rfl ?_
    refine gr_getf dX5_squarePower_68 cls_X5 4 (by decide) fl_X5_24 (ro_0 hA) rfl ?_
    refine gr_iload_n dX5_squarePower_71 rfl ?_
    refine gr_ialoadF dX5_squarePower_72 (ro_5 hA) (by omega) (by decide) ?_
    refine gr_imulN dX5_squarePower_73 ?_
    refine gr_iaddN dX5_squarePower_74 ?_
    refine gr_remP dX5_squarePower_75 dX5_squarePower_78 (by have := zmul_lt (w a) (w b); have := zl (psqI w (t + 1) a b (a + b)); omega) (zmad2 _ _ _) ?_
    refine gr_iastoreF dX5_squarePower_79 (ro_6 hA) (by omega) (by decide) ?_
    rw [psqI_up (by omega), ro_w6 hA]
    refine gr_iinc (v := nI (_ + 1)) dX5_squarePower_80 rfl (nI_1 _) (by decide) rfl ?_
    refine gr_goto 41 dX5_squarePower_83 (by decide) ?_
    exact ih (b + 1) (by omega)

set_option maxHeartbeats 4000000 in
set_option maxRecDepth 100000 in
theorem c_sq_outer (l : Launch) (E : ga_E) (d : Nat) (h : ga_H) (A : Nat → Nat) (n : Nat) (f r p i w s : Nat → zp) (hA : ga_inj A 7) (hw : pz 7 w) (hs : pz 13 s) (t : Nat) (ht : pdeg w 7 = t + 1) (ht7 : t < 7) : ∀ (g a : Nat) (x4 : Option Value), a + g = t + 1 → ga_G l E mX5_squarePower (ga_Rm (d + 2) 0 0) (ga_Z E (fun r0 h' => h' = roH E h A n f r p i w (psq w) ∧ r0 = none) 0 0) 34 [some (.ref (A 0)), some (.int (nI t)), some (.int (nI a)), x4] [] (roH E h A n f r p i w (psqI w (t + 1) a 0)) 0 0 := by
  intro g
  induction g with
  | zero =>
    intro a x4 ha
    refine gr_iload_n dX5_squarePower_34 rfl (gr_iload_n dX5_squarePower_35 rfl ?_)
    refine gr_icmpgtN 92 dX5_squarePower_36 (by decide) (by omega) (by omega) (fun _ => ?_) (fun z => absurd z (by omega))
    have e : psqI w (t + 1) a 0 = psq w := by unfold psq; rw [ht, show a = t + 1 by omega]
    rw [e]
    exact gr_return dX5_squarePower_92 rfl (Nat.le_refl _) (Nat.le_refl _) ⟨rfl, rfl⟩
  | succ g ih =>
    intro a x4 ha
    refine gr_iload_n dX5_squarePower_34 rfl (gr_iload_n dX5_squarePower_35 rfl ?_)
    refine gr_icmpgtN 92 dX5_squarePower_36 (by decide) (by omega) (by omega) (fun z => absurd z (by omega)) (fun _ => ?_)
    refine gr_iconst (v := nI 0) dX5_squarePower_39 rfl (gr_istore_n dX5_squarePower_40 (by decide) rfl ?_)
    refine c_sq_inner l E d h A n f r p i w s hA hw hs t a ht7 (by omega) (fun y4 => ?_) (t + 1) 0 (by omega)
    refine gr_iinc (v := nI (_ + 1)) dX5_squarePower_86 rfl (nI_1 _) (by decide) rfl ?_
    refine gr_goto 34 dX5_squarePower_89 (by decide) ?_
    exact ih (a + 1) _ (by omega)

set_option maxHeartbeats 4000000 in
set_option maxRecDepth 100000 in
theorem c_sq_fill (l : Launch) (E : ga_E) (d : Nat) (h : ga_H) (A : Nat → Nat) (n : Nat) (f r p i w s : Nat → zp) (hA : ga_inj A 7) (hw : pz 7 w) (hs : pz 13 s) : ∀ (g : Nat) (s1 : Nat → zp) (b : Nat), b + g = 13 → (∀ j, j < b → s1 j = 0) → pz 13 s1 → ga_G l E mX5_squarePower (ga_Rm (d + 2) 0 0) (ga_Z E (fun r0 h' => h' = roH E h A n f r p i w (psq w) ∧ r0 = none) 0 0) 2 [some (.ref (A 0)), some (.int (nI b)), none, none] [] (roH E h A n f r p i w s1) 0 0 := by
  intro g
  induction g with
  | zero =>
    intro s1 b hb hlt hs1
    refine gr_iload_n dX5_squarePower_2 rfl (gr_aload_n dX5_squarePower_3 rfl (gr_getf dX5_squarePower_4 cls_X5 5 (by decide) fl_X5_27 (ro_0 hA) rfl (gr_alen_i dX5_squarePower_7 (ro_6 hA) ?_)))
    refine gr_icmpgeN 24 dX5_squarePower_8 (by decide) (by omega) (by omega) (fun _ => ?_) (fun z => absurd z (by omega))
    have e0 : s1 = fun _ => 0 := by
      funext j
      by_cases c : j < b
      · exact hlt j c
      · exact hs1 j (by omega)
    refine gr_aload_n dX5_squarePower_24 rfl ?_
    refine gr_getf dX5_squarePower_25 cls_X5 4 (by decide) fl_X5_24 (ro_0 hA) rfl ?_
    refine gr_callS dX5_squarePower_28 (c_degree l E (d + 1) _ (A 5) 7 w (ro_5 hA) (by decide)) ysX4_degree ⟨ml_X5_43, sm_X4_degree⟩ rfl rfl (Nat.le_of_ble_eq_true rfl) ⟨(Nat.le_refl _), (Nat.le_refl _)⟩ ⟨(Nat.le_refl _), (Nat.le_refl _)⟩ (fun r0 h1 hp => ?_)
    obtain ⟨e1, rfl⟩ := hp
    subst h1
    have hle := pdeg_le w 7
    rcases hk : pdeg w 7 with _ | t
    · refine gr_istore_n dX5_squarePower_31 (by decide) rfl (gr_iconst (v := nI 0) dX5_squarePower_32 rfl (gr_istore_n dX5_squarePower_33 (by decide) rfl ?_))
      refine gr_iload_n dX5_squarePower_34 rfl (gr_iload_n dX5_squarePower_35 rfl ?_)
      refine gr_icmpgt 92 dX5_squarePower_36 (by decide) (fun _ => ?_) (fun z => absurd (by decide) z)
      have e : s1 = psq w := by unfold psq; rw [hk, psqI_00, e0]
      rw [e]
      exact gr_return dX5_squarePower_92 rfl (Nat.le_refl _) (Nat.le_refl _) ⟨rfl, rfl⟩
    · rw [hk] at hle
      refine gr_top (congrArg Value.int (dn_top t)) ?_
      refine gr_istore_n dX5_squarePower_31 (by decide) rfl (gr_iconst (v := nI 0) dX5_squarePower_32 rfl (gr_istore_n dX5_squarePower_33 (by decide) rfl ?_))
      rw [e0, ← psqI_00 w (t + 1)]
      exact c_sq_outer l E d h A n f r p i w s hA hw hs t hk (by omega) (t + 1) 0 _ (by omega)
  | succ g ih =>
    intro s1 b hb hlt hs1
    refine gr_iload_n dX5_squarePower_2 rfl (gr_aload_n dX5_squarePower_3 rfl (gr_getf dX5_squarePower_4 cls_X5 5 (by decide) fl_X5_27 (ro_0 hA) rfl (gr_alen_i dX5_squarePower_7 (ro_6 hA) ?_)))
    refine gr_icmpgeN 24 dX5_squarePower_8 (by decide) (by omega) (by omega) (fun z => absurd z (by omega)) (fun _ => ?_)
    refine gr_aload_n dX5_squarePower_11 rfl ?_
    refine gr_getf dX5_squarePower_12 cls_X5 5 (by decide) fl_X5_27 (ro_0 hA) rfl ?_
    refine gr_iload_n dX5_squarePower_15 rfl ?_
    refine gr_iconst (v := nI (0 : zp).val) dX5_squarePower_16 rfl ?_
    refine gr_iastoreF (x := 0) dX5_squarePower_17 (ro_6 hA) (by omega) (by decide) ?_
    rw [ro_w6 hA]
    refine gr_iinc (v := nI (_ + 1)) dX5_squarePower_18 rfl (nI_1 _) (by decide) rfl ?_
    refine gr_goto 2 dX5_squarePower_21 (by decide) ?_
    refine ih _ (b + 1) (by omega) (fun j hj => ?_) (pz_up hs1 (by omega))
    by_cases e : j = b
    · exact if_pos e
    · exact (if_neg e : va_up s1 b 0 j = s1 j).trans (hlt j (by omega))

set_option maxHeartbeats 4000000 in
set_option maxRecDepth 100000 in
theorem c_squarePower (l : Launch) (E : ga_E) (d : Nat) (h : ga_H) (A : Nat → Nat) (n : Nat) (f r p i w s : Nat → zp) (hA : ga_inj A 7) (hw : pz 7 w) (hs : pz 13 s) : ga_Ok l E (d + 2) mX5_squarePower [.ref (A 0)] (roH E h A n f r p i w s) 0 0 (fun r0 h' => h' = roH E h A n f r p i w (psq w) ∧ r0 = none) := by
  refine ga_Ok.of 3 _ (by decide) rfl (Nat.le_of_ble_eq_true rfl) rfl ?_
  refine gr_iconst (v := nI 0) dX5_squarePower_0 rfl (gr_istore_n dX5_squarePower_1 (by decide) rfl ?_)
  exact c_sq_fill l E d h A n f r p i w s hA hw hs 13 s 0 (by omega) (fun j hj => absurd hj (by omega)) hs
