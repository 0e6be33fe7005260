/-! Answers: hasBase, collectTopNumbers, findBases, find -/
def tnP (F : Nat → Nat → zp) : Nat → zp := fun j => if j ≤ 4 ∧ dmax F 5 ≠ 0 then F j (dmax F 5 - 1) else 0
theorem find_le {q f : Nat → zp} (hq : pdeg q 7 ≠ 0) : (rtN q f).1 ≤ pdeg q 7 - 1 := by
  obtain ⟨h1, h2, h3⟩ := find_spec (f := f) hq
  have hc : pz 7 (pcut 7 q) := pcut_z 7 q
  have hev : ∀ y, ev (pcut 7 q) 7 y = ev q 7 y := fun y => zs_congr (fun i hi => by rw [show pcut 7 q i = q i from if_pos hi])
  have hdg : ∀ n, n ≤ 7 → pdeg (pcut 7 q) n = pdeg q n := fun n => by
    induction n with
    | zero => intro _; rfl
    | succ n ih =>
      intro hn
      unfold pdeg
      rw [show pcut 7 q n = q n from if_pos (by omega), ih (by omega)]
  obtain ⟨s, hs⟩ : ∃ s, pdeg (pcut 7 q) 7 = s + 1 := ⟨pdeg q 7 - 1, by rw [hdg 7 (by omega)]; omega⟩
  have hle := pdeg_le (pcut 7 q) 7
  have hM := pmon_Mon hc hs
  generalize rtN q f = N at h1 h2 h3
  have := rbound hM ((List.range N.1).map N.2.1) (List.nodup_iff_pairwise_ne.mpr ?_) (fun x hx => ?_)
  · rw [List.length_map, List.length_range] at this
    rw [← hdg 7 (by omega), hs]; omega
  · rw [List.pairwise_map]
    refine List.Pairwise.imp_of_mem (fun {a b} ha hb hab => ?_) (List.pairwise_lt_range)
    intro e
    have := h2 a b hab (List.mem_range.mp hb)
    rw [e] at this
    omega
  · obtain ⟨i, hi, rfl⟩ := List.mem_map.mp hx
    rw [← hM.ev7 (by omega), pmon_eq hc hs, ev_smul, hev, (h3 _).mp ⟨i, List.mem_range.mp hi, rfl⟩]
    grind
theorem dmax_at (F : Nat → Nat → zp) : ∀ n, dmax F n ≠ 0 → ∃ i, i < n ∧ pdeg (F i) 7 = dmax F n
  | 0, h => absurd rfl h
  | n + 1, h => by
    show ∃ i, i < n + 1 ∧ pdeg (F i) 7 = max (dmax F n) (pdeg (F n) 7)
    by_cases c : dmax F n ≤ pdeg (F n) 7
    · exact ⟨n, by omega, by omega⟩
    · obtain ⟨i, hi, e⟩ := dmax_at F n (by omega)
      exact ⟨i, by omega, by omega⟩
theorem dmax_ge (F : Nat → Nat → zp) : ∀ n i, i < n → pdeg (F i) 7 ≤ dmax F n
  | n + 1, i, h => by
    show _ ≤ max (dmax F n) (pdeg (F n) 7)
    by_cases c : i = n
    · subst c; omega
    · have := dmax_ge F n i (by omega); omega
theorem tnP_hi (F : Nat → Nat → zp) {j : Nat} (h : 5 ≤ j) : tnP F j = 0 := if_neg (by omega)
theorem tnP_deg {F : Nat → Nat → zp} (h : dmax F 5 ≠ 0) : pdeg (tnP F) 7 ≠ 0 ∧ pdeg (tnP F) 7 ≤ 5 := by
  obtain ⟨i, hi, e⟩ := dmax_at F 5 h
  have hl := dmax_le F 5
  have hne : tnP F i ≠ 0 := by
    unfold tnP; rw [if_pos ⟨by omega, h⟩]
    exact pdeg_lead (n := 7) (by omega)
  refine ⟨fun z => hne (pdeg_hi (n := 7) (by omega) (by omega)), ?_⟩
  by_cases c : pdeg (tnP F) 7 ≤ 5
  · exact c
  · obtain ⟨s, hs⟩ : ∃ s, pdeg (tnP F) 7 = s + 1 := ⟨pdeg (tnP F) 7 - 1, by omega⟩
    exact absurd (tnP_hi F (by omega)) (pdeg_lead hs)
theorem great_dmax {F : Nat → Nat → zp} {g : Nat} (h : GreatS F (some g)) : dmax F 5 ≠ 0 := by
  rcases h with ⟨z, -⟩ | ⟨i, z, hi, hp, -⟩
  · cases z
  · have := dmax_ge F 5 i hi; omega
/-- k of the candidates have been gone through -/
def CB (Mz : zp → Nat → Nat → zp) (cf : Nat → zp) (k bc : Nat) (ba : Nat → zp) (bs : Nat → Nat) (bv : Nat → Nat → zp) : Prop := bc ≤ k ∧ Inc bc ba ∧ (∀ y, Has bc ba y ↔ Has k cf y ∧ y ≠ 0 ∧ Sm (Mz y)) ∧ ∀ j, j < bc → ResP (Mz (ba j)) (bs j) (bv j)
section CBS
variable {Mz : zp → Nat → Nat → zp} {cf : Nat → zp} {k bc cn : Nat} {ba : Nat → zp} {bs bs' : Nat → Nat} {bv bv' : Nat → Nat → zp}
theorem CB_0 : CB Mz cf 0 0 ba bs bv := ⟨by omega, fun i j _ hj => absurd hj (by omega), fun y => ⟨fun z => by obtain ⟨i, h, -⟩ := z; omega, fun z => by obtain ⟨⟨i, h, -⟩, -⟩ := z; omega⟩, fun j hj => absurd hj (by omega)⟩
theorem CB_skip (h : CB Mz cf k bc ba bs bv) (hs : cf k = 0 ∨ ¬ Sm (Mz (cf k))) (hb : ∀ j, j < bc → bs' j = bs j ∧ bv' j = bv j) : CB Mz cf (k + 1) bc ba bs' bv' := by
  obtain ⟨h1, h2, h3, h4⟩ := h
  refine ⟨by omega, h2, fun y => (h3 y).trans ⟨fun z => ⟨?_, z.2⟩, fun z => ⟨?_, z.2⟩⟩, fun j hj => by rw [(hb j hj).1, (hb j hj).2]; exact h4 j hj⟩
  · obtain ⟨i, a, b⟩ := z.1
    exact ⟨i, by omega, b⟩
  · obtain ⟨i, a, b⟩ := z.1
    refine ⟨i, ?_, b⟩
    by_cases e : i = k
    · subst e
      rw [b] at hs
      rcases hs with w | w
      · exact absurd w z.2.1
      · exact absurd z.2.2 w
    · omega
theorem CB_take (h : CB Mz cf k bc ba bs bv) (hinc : Inc cn cf) (hk : k < cn) (h0 : cf k ≠ 0) (hs : Sm (Mz (cf k))) (hb : ∀ j, j < bc → bs' j = bs j ∧ bv' j = bv j) (hP : ResP (Mz (cf k)) (bs' bc) (bv' bc)) : CB Mz cf (k + 1) (bc + 1) (va_up ba bc (cf k)) bs' bv' := by
  obtain ⟨h1, h2, h3, h4⟩ := h
  have low : ∀ i, i < bc → (ba i).val < (cf k).val := fun i hi => by
    obtain ⟨⟨m, hm, e⟩, -⟩ := (h3 (ba i)).mp ⟨i, hi, rfl⟩
    rw [← e]
    exact hinc m k hm hk
  refine ⟨by omega, fun i j hij hj => ?_, fun y => ⟨fun z => ?_, fun z => ?_⟩, fun j hj => ?_⟩
  · by_cases e : j = bc
    · rw [e, va_us, va_un (by omega)]; exact low i (by omega)
    · rw [va_un e, va_un (by omega)]; exact h2 i j hij (by omega)
  · obtain ⟨i, a, b⟩ := z
    by_cases e : i = bc
    · rw [e, va_us] at b
      rw [← b]
      exact ⟨⟨k, by omega, rfl⟩, h0, hs⟩
    · rw [va_un e] at b
      obtain ⟨⟨m, hm, e2⟩, w⟩ := (h3 y).mp ⟨i, by omega, b⟩
      exact ⟨⟨m, by omega, e2⟩, w⟩
  · obtain ⟨⟨m, hm, e⟩, w⟩ := z
    by_cases em : m = k
    · exact ⟨bc, by omega, by rw [va_us, ← e, em]⟩
    · obtain ⟨i, a, b⟩ := (h3 y).mpr ⟨⟨m, by omega, e⟩, w⟩
      exact ⟨i, by omega, by rw [va_un (by omega)]; exact b⟩
  · by_cases e : j = bc
    · rw [e, va_us]; exact hP
    · rw [va_un e, (hb j (by omega)).1, (hb j (by omega)).2]; exact h4 j (by omega)
theorem CB_end {Rt : zp → Prop} (h : CB Mz cf cn bc ba bs bv) (hR : ∀ y, Has cn cf y ↔ Rt y) : ResB Mz Rt bc ba bs bv := ⟨h.2.1, fun y => (h.2.2.1 y).trans (by rw [hR y]; exact and_left_comm), h.2.2.2⟩
end CBS
section CLS
variable {E : ga_E} {h : ga_H} {Z : Nat → Nat} {c : Nat → va_E} {C : Nat → Nat → zp} {u : Nat → Bool} {pv : Nat → Option Nat} {t : Nat → zp}
theorem co_lsb (hZ : ga_inj Z 65) : lsH E (ga_ov h Z c 65) (fun k => Z (10 + k)) C u pv t = ga_ov h Z (cset c 10 24 (lsC E (fun k => Z (10 + k)) C u pv t)) 65 := ov_blk hZ (by omega)
theorem co_lss (hZ : ga_inj Z 65) (hk : ∀ k, k < 24 → c (10 + k) = lsC E (fun k => Z (10 + k)) C u pv t k) : ga_ov h Z c 65 = lsH E (ga_ov h Z c 65) (fun k => Z (10 + k)) C u pv t := (ga_ov_self (fun k hk2 => co_rd hZ (by omega) (hk k hk2))).symm
theorem co_rwb (hZ : ga_inj Z 65) {i j n : Nat} {v : Nat → zp} (hi : 34 ≤ i ∧ i < 65) (hj : 34 ≤ j ∧ j < 65) (hk : ∀ k, k < 24 → c (10 + k) = lsC E (fun k => Z (10 + k)) C u pv t k) : lsH E (rwB E (ga_ov h Z c 65) (Z i) (Z j) n v) (fun k => Z (10 + k)) C u pv t = ga_ov h Z (cset (cset c j 1 (fun _ => ga_f E 169 v)) i 1 (fun _ => ga_o 6 [.ref (Z j), .int (nI n)])) 65 := by
  unfold rwB
  rw [up_blk hZ hj.2, up_blk hZ hi.2]
  exact (co_lss hZ (fun k hk2 => by rw [cs_out (by omega), cs_out (by omega)]; exact hk k hk2)).symm
theorem co_pab (hZ : ga_inj Z 65) {x : va_E} (hk : ∀ k, k < 24 → c (10 + k) = lsC E (fun k => Z (10 + k)) C u pv t k) : lsH E (ga_up (ga_ov h Z c 65) (Z 45) x) (fun k => Z (10 + k)) C u pv t = ga_ov h Z (cset c 45 1 (fun _ => x)) 65 := by
  rw [up_blk hZ (by omega)]
  exact (co_lss hZ (fun k hk2 => by rw [cs_out (by omega)]; exact hk k hk2)).symm
end CLS
theorem ech_rng2 {M C : Nat → Nat → zp} {u : Nat → Bool} {pv : Nat → Option Nat} (h : Ech M C u pv) : ∀ j i, j < 13 → pv j = some i → i < 19 := fun j i hj e => (h.2.2.1 j hj i e).1

set_option maxHeartbeats 4000000 in
set_option maxRecDepth 100000 in
theorem c_hasBase (l : Launch) (E : ga_E) (d : Nat) (h : ga_H) (Z : Nat → Nat) (kn mt : Bool) (bc : Nat) (hbc : bc ≤ 4) (a : Nat) (ha : h a = some (ga_o 2 (anF Z kn mt bc))) (k : Int32) : ga_Ok l E d mX0_hasBase [.ref a, .int k] h 0 0 (fun r0 h' => h' = h ∧ r0 = some (.int (bI (ltR k bc)))) := by
  refine ga_Ok.of 0 _ (by decide) rfl (Nat.le_of_ble_eq_true rfl) rfl ?_
  refine gr_iload_n dX0_hasBase_0 rfl ?_
  refine gr_iflt 16 dX0_hasBase_1 (by decide) (fun c_1 => ?_) (fun c_1 => ?_)
  · refine gr_iconst (v := nI 0) dX0_hasBase_16 rfl ?_
    first
      | exact gr_zreturn dX0_hasBase_17 rfl rfl (Nat.le_refl _) (Nat.le_refl _) ⟨rfl, by rw [ltR_neg c_1]; rfl⟩
      | exact gr_zreturn dX0_hasBase_17 rfl rfl (Nat.le_refl _) (Nat.le_refl _) ⟨rfl, by rw [ltR_ge hj c_9]; rfl⟩
      | exact gr_zreturn dX0_hasBase_17 rfl rfl (Nat.le_refl _) (Nat.le_refl _) ⟨rfl, by rw [ltR_lt hj c_9]; rfl⟩
  · obtain ⟨j, hj, rfl⟩ := nI_of c_1
    refine gr_iload_n dX0_hasBase_4 rfl ?_
    refine gr_aload_n dX0_hasBase_5 rfl ?_
    refine gr_getf dX0_hasBase_6 cls_X0 6 (by decide) fl_X0_39 ha rfl ?_
    refine gr_icmpgeN 16 dX0_hasBase_9 (by decide) hj (by omega) (fun c_9 => ?_) (fun c_9 => ?_)
    · refine gr_iconst (v := nI 0) dX0_hasBase_16 rfl ?_
      first
        | exact gr_zreturn dX0_hasBase_17 rfl rfl (Nat.le_refl _) (Nat.le_refl _) ⟨rfl, by rw [ltR_neg c_1]; rfl⟩
        | exact gr_zreturn dX0_hasBase_17 rfl rfl (Nat.le_refl _) (Nat.le_refl _) ⟨rfl, by rw [ltR_ge hj c_9]; rfl⟩
        | exact gr_zreturn dX0_hasBase_17 rfl rfl (Nat.le_refl _) (Nat.le_refl _) ⟨rfl, by rw [ltR_lt hj c_9]; rfl⟩
    · refine gr_iconst (v := nI 1) dX0_hasBase_12 rfl ?_
      refine gr_goto 17 dX0_hasBase_13 (by decide) ?_
      first
        | exact gr_zreturn dX0_hasBase_17 rfl rfl (Nat.le_refl _) (Nat.le_refl _) ⟨rfl, by rw [ltR_neg c_1]; rfl⟩
        | exact gr_zreturn dX0_hasBase_17 rfl rfl (Nat.le_refl _) (Nat.le_refl _) ⟨rfl, by rw [ltR_ge hj c_9]; rfl⟩
        | exact gr_zreturn dX0_hasBase_17 rfl rfl (Nat.le_refl _) (Nat.le_refl _) ⟨rfl, by rw [ltR_lt hj c_9]; rfl⟩

set_option maxHeartbeats 4000000 in
set_option maxRecDepth 100000 in
theorem c_ct_loop (l : Launch) (E : ga_E) (d : Nat) (h : ga_H) (Z : Nat → Nat) (kn mt : Bool) (bc : Nat) (a : Nat) (ha : h a = some (ga_o 2 (anF Z kn mt bc))) (hna : a ≠ Z 42) (B : Nat → Nat) (o : Nat) (F : Nat → Nat → zp) (S : Nat → zp) (hB : eqAt E h B o F S) (hBn : ∀ k, k < 8 → B k ≠ Z 42) : ∀ (g i : Nat) (w : Nat → zp) (x4 : Option Value), i + g = 7 → (∀ j, j < i → w j = tnP F j) → ga_G l E mX0_collectTopNumbers (ga_Rm (d + 2) 0 0) (ga_Z E (fun r0 h' => ∃ w : Nat → zp, (∀ j, j < 7 → w j = tnP F j) ∧ h' = ga_up h (Z 42) (ga_f E 7 w) ∧ r0 = none) 0 0) 7 [some (.ref a), some (.ref (B 0)), some (.int (nI (dmax F 5) - nI 1)), some (.int (nI i)), x4] [] (ga_up h (Z 42) (ga_f E 7 w)) 0 0 := by
  intro g
  induction g with
  | zero =>
    intro i w x4 hi hw
    refine gr_iload_n dX0_collectTopNumbers_7 rfl (gr_bipush (v := nI 7) dX0_collectTopNumbers_8 (by decide) ?_)
    refine gr_icmpgeN 58 dX0_collectTopNumbers_10 (by decide) (by omega) (by omega) (fun _ => ?_) (fun z => absurd z (by omega))
    exact gr_return dX0_collectTopNumbers_58 rfl (Nat.le_refl _) (Nat.le_refl _) ⟨w, fun j hj => hw j (by omega), rfl, rfl⟩
  | succ g ih =>
    intro i w x4 hi hw
    have hB2 : eqAt E (ga_up h (Z 42) (ga_f E 7 w)) B o F S := fun k hk => (ga_up_ne (hBn k hk)).trans (hB k hk)
    refine gr_iload_n dX0_collectTopNumbers_7 rfl (gr_bipush (v := nI 7) dX0_collectTopNumbers_8 (by decide) ?_)
    refine gr_icmpgeN 58 dX0_collectTopNumbers_10 (by decide) (by omega) (by omega) (fun z => absurd z (by omega)) (fun _ => ?_)
    refine gr_iload_n dX0_collectTopNumbers_13 rfl ?_
    refine gr_iconst (v := nI 4) dX0_collectTopNumbers_14 rfl ?_
    refine gr_icmpgtN 26 dX0_collectTopNumbers_15 (by decide) (by omega) (by omega) (fun c_15 => ?_) (fun c_15 => ?_)
    · refine gr_iconst (v := nI 0) dX0_collectTopNumbers_26 rfl ?_
      refine gr_istore dX0_collectTopNumbers_27 (by decide) rfl ?_
      refine gr_aload_n dX0_collectTopNumbers_29 rfl ?_
      refine gr_getf dX0_collectTopNumbers_30 cls_X0 1 (by decide) fl_X0_18 ((ga_up_ne hna).trans ha) rfl ?_
      refine gr_iload_n dX0_collectTopNumbers_33 rfl ?_
      refine gr_iload dX0_collectTopNumbers_34 rfl ?_
      refine gr_ifeqN 50 dX0_collectTopNumbers_36 (by decide) (by omega) (fun _ => ?_) (fun z => absurd rfl z)
      refine gr_iconst (v := nI (0 : zp).val) dX0_collectTopNumbers_50 rfl ?_
      refine gr_iastoreU dX0_collectTopNumbers_51 (by omega) (by decide) ?_
      refine gr_iinc (v := nI (_ + 1)) dX0_collectTopNumbers_52 rfl (nI_1 _) (by decide) rfl ?_
      refine gr_goto 7 dX0_collectTopNumbers_55 (by decide) ?_
      refine ih (i + 1) _ _ (by omega) (fun j hj => ?_)
      by_cases e : j = i
      · rw [e, va_us]
        unfold tnP
        rw [if_neg (by omega)]
      · rw [va_un e]; exact hw j (by omega)
    · have hl7 := dmax_le F 5
      rcases (show dmax F 5 = 0 ∨ ∃ m, dmax F 5 = m + 1 by
        rcases dmax F 5 with _ | m
        · exact Or.inl rfl
        · exact Or.inr ⟨m, rfl⟩) with hm | ⟨m, hm⟩
      · refine gr_iload_n dX0_collectTopNumbers_18 rfl (gr_iflt 26 dX0_collectTopNumbers_19 (by decide) (fun _ => ?_) (fun z => absurd (by rw [hm]; decide) z))
        refine gr_iconst (v := nI 0) dX0_collectTopNumbers_26 rfl ?_
        refine gr_istore dX0_collectTopNumbers_27 (by decide) rfl ?_
        refine gr_aload_n dX0_collectTopNumbers_29 rfl ?_
        refine gr_getf dX0_collectTopNumbers_30 cls_X0 1 (by decide) fl_X0_18 ((ga_up_ne hna).trans ha) rfl ?_
        refine gr_iload_n dX0_collectTopNumbers_33 rfl ?_
        refine gr_iload dX0_collectTopNumbers_34 rfl ?_
        refine gr_ifeqN 50 dX0_collectTopNumbers_36 (by decide) (by omega) (fun _ => ?_) (fun z => absurd rfl z)
        refine gr_iconst (v := nI (0 : zp).val) dX0_collectTopNumbers_50 rfl ?_
        refine gr_iastoreU dX0_collectTopNumbers_51 (by omega) (by decide) ?_
        refine gr_iinc (v := nI (_ + 1)) dX0_collectTopNumbers_52 rfl (nI_1 _) (by decide) rfl ?_
        refine gr_goto 7 dX0_collectTopNumbers_55 (by decide) ?_
        refine ih (i + 1) _ _ (by omega) (fun j hj => ?_)
        by_cases e : j = i
        · rw [e, va_us]
          unfold tnP
          rw [if_neg (by omega)]
        · rw [va_un e]; exact hw j (by omega)
      · refine gr_iload_n dX0_collectTopNumbers_18 rfl (gr_top (congrArg Value.int (show nI (dmax F 5) - nI 1 = nI m by rw [hm]; exact dn_top m)) (gr_ifltN dX0_collectTopNumbers_19 26 (by decide) (by omega) ?_))
        refine gr_iconst (v := nI 1) dX0_collectTopNumbers_22 rfl ?_
        refine gr_goto 27 dX0_collectTopNumbers_23 (by decide) ?_
        refine gr_istore dX0_collectTopNumbers_27 (by decide) rfl ?_
        refine gr_aload_n dX0_collectTopNumbers_29 rfl ?_
        refine gr_getf dX0_collectTopNumbers_30 cls_X0 1 (by decide) fl_X0_18 ((ga_up_ne hna).trans ha) rfl ?_
        refine gr_iload_n dX0_collectTopNumbers_33 rfl ?_
        refine gr_iload dX0_collectTopNumbers_34 rfl ?_
        refine gr_ifeqN 50 dX0_collectTopNumbers_36 (by decide) (by omega) (fun z => absurd z (by decide)) (fun _ => ?_)
        refine gr_aload_n dX0_collectTopNumbers_39 rfl ?_
        refine gr_getf dX0_collectTopNumbers_40 cls_X1 1 (by decide) fl_X0_95 (eq_0 hB2) rfl ?_
        refine gr_iload_n dX0_collectTopNumbers_43 rfl ?_
        refine gr_aaloadI dX0_collectTopNumbers_44 (eq_1 hB2) (by omega) (by decide) (eq_R (by omega)) ?_
        refine gr_iload_n dX0_collectTopNumbers_45 rfl (gr_top (congrArg Value.int (show nI (dmax F 5) - nI 1 = nI m by rw [hm]; exact dn_top m)) ?_)
        refine gr_ialoadF dX0_collectTopNumbers_46 (eq_r hB2 (by omega)) (by omega) (by decide) ?_
        refine gr_goto 51 dX0_collectTopNumbers_47 (by decide) ?_
        refine gr_iastoreU dX0_collectTopNumbers_51 (by omega) (by decide) ?_
        refine gr_iinc (v := nI (_ + 1)) dX0_collectTopNumbers_52 rfl (nI_1 _) (by decide) rfl ?_
        refine gr_goto 7 dX0_collectTopNumbers_55 (by decide) ?_
        refine ih (i + 1) _ _ (by omega) (fun j hj => ?_)
        by_cases e : j = i
        · rw [e, va_us]
          unfold tnP
          rw [if_pos ⟨by omega, by omega⟩, hm]
          rfl
        · rw [va_un e]; exact hw j (by omega)

set_option maxHeartbeats 4000000 in
set_option maxRecDepth 100000 in
theorem c_collectTop (l : Launch) (E : ga_E) (d : Nat) (h : ga_H) (Z : Nat → Nat) (kn mt : Bool) (bc : Nat) (a : Nat) (ha : h a = some (ga_o 2 (anF Z kn mt bc))) (hna : a ≠ Z 42) (B : Nat → Nat) (o : Nat) (F : Nat → Nat → zp) (S : Nat → zp) (hB : eqAt E h B o F S) (hBn : ∀ k, k < 8 → B k ≠ Z 42) (tn : Nat → zp) (htn : h (Z 42) = some (ga_f E 7 tn)) : ga_Ok l E (d + 2) mX0_collectTopNumbers [.ref a, .ref (B 0)] h 0 0 (fun r0 h' => ∃ w : Nat → zp, (∀ j, j < 7 → w j = tnP F j) ∧ h' = ga_up h (Z 42) (ga_f E 7 w) ∧ r0 = none) := by
  refine ga_Ok.of 3 _ (by decide) rfl (Nat.le_of_ble_eq_true rfl) rfl ?_
  refine gr_aload_n dX0_collectTopNumbers_0 rfl ?_
  refine gr_callV dX0_collectTopNumbers_1 (c_greatestDegree l E d h B o F S hB) ysX1_greatestDegree ⟨ml_X0_89, im_X1_greatestDegree, sl_X1_greatestDegree⟩ (eq_0 hB) (show vwCl[3]? = some (RX1, TX1, _) from rfl) rfl rfl (Nat.le_of_ble_eq_true rfl) ⟨(Nat.le_refl _), (Nat.le_refl _)⟩ ⟨(Nat.le_refl _), (Nat.le_refl _)⟩ (fun r0 h1 hp9 => ?_)
  obtain ⟨e1, rfl⟩ := hp9
  subst h1
  refine gr_istore_n dX0_collectTopNumbers_4 (by decide) rfl ?_
  refine gr_iconst (v := nI 0) dX0_collectTopNumbers_5 rfl ?_
  refine gr_istore_n dX0_collectTopNumbers_6 (by decide) rfl ?_
  have e9 : h = ga_up h (Z 42) (ga_f E 7 tn) := (ga_up_self htn).symm
  refine gr_h e9 ?_
  exact c_ct_loop l E d h Z kn mt bc a ha hna B o F S hB hBn 7 0 tn _ (by omega) (fun j hj => absurd hj (by omega))
