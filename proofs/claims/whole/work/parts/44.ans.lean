/-! The reference: answers, greatest, highest, thrown, unknown -/
theorem zneg_mod (x : zp) : zo (32003 - x.val) = -x := by
  by_cases e : x.val = 0
  · have : x = 0 := Fin.ext e
    subst this; rfl
  · rw [← zneg e, zo_self]

set_option maxHeartbeats 4000000 in
set_option maxRecDepth 100000 in
theorem c_an_inner (l : Launch) (E : ga_E) (d : Nat) (X : (Nat → zp) → ga_H) (A : Nat → Nat) (s : Nat → Int32) (ta : Nat → zp) (pv : Nat → Option Nat) (b N f0 : Nat) (h0 : ∀ v, X v (A 0) = some (ga_o 9 (mdF A s))) (h11 : ∀ v, X v (A 11) = some (ga_f E 266 ta)) (h14 : ∀ v, X v (A 14) = some (ga_i E 13 (fun j => optI (pv j)))) (hb : ∀ v, X v b = some (ga_f E N v)) (hw : ∀ v w, ga_up (X v) b (ga_f E N w) = X w) (hN : f0 + 169 ≤ N) (hN2 : N < 2 ^ 31) (hpv : ∀ j i, j < 13 → pv j = some i → i < 19) (v0 : Nat → zp) (c f : Nat) (hc : c < 13) (hf : f = 12 - c) (hcn : cnt (rvp pv) f < 13) (kx : ∀ (v : Nat → zp) (x5 x6 : Option Value), (∀ j, j < 13 → v (f0 + (cnt (rvp pv) f * 13 + j)) = vecF (tM ta) (rvp pv) f j) → (∀ f9, f9 < f → rvp pv f9 = none → ∀ j, j < 13 → v (f0 + (cnt (rvp pv) f9 * 13 + j)) = vecF (tM ta) (rvp pv) f9 j) → (∀ m, m < f0 → v m = v0 m) → ga_G l E mX9_answers (ga_Rm d 0 0) (ga_Z E (fun r0 h' => ∃ v, (∀ f9, f9 < 13 → rvp pv f9 = none → ∀ j, j < 13 → v (f0 + (cnt (rvp pv) f9 * 13 + j)) = vecF (tM ta) (rvp pv) f9 j) ∧ (∀ m, m < f0 → v m = v0 m) ∧ h' = X v ∧ r0 = some (.int (nI (cnt (rvp pv) 13)))) 0 0) 106 [some (.ref (A 0)), some (.ref b), some (.int (nI f0)), some (.int (nI (cnt (rvp pv) f))), some (.int (nI c)), x5, x6] [] (X v) 0 0) : ∀ (g k : Nat) (v : Nat → zp) (x6 : Option Value), k + g = 13 → (∀ j, j < k → v (f0 + (cnt (rvp pv) f * 13 + j)) = vecF (tM ta) (rvp pv) f j) → (∀ f9, f9 < f → rvp pv f9 = none → ∀ j, j < 13 → v (f0 + (cnt (rvp pv) f9 * 13 + j)) = vecF (tM ta) (rvp pv) f9 j) → (∀ m, m < f0 → v m = v0 m) → ga_G l E mX9_answers (ga_Rm d 0 0) (ga_Z E (fun r0 h' => ∃ v, (∀ f9, f9 < 13 → rvp pv f9 = none → ∀ j, j < 13 → v (f0 + (cnt (rvp pv) f9 * 13 + j)) = vecF (tM ta) (rvp pv) f9 j) ∧ (∀ m, m < f0 → v m = v0 m) ∧ h' = X v ∧ r0 = some (.int (nI (cnt (rvp pv) 13)))) 0 0) 24 [some (.ref (A 0)), some (.ref b), some (.int (nI f0)), some (.int (nI (cnt (rvp pv) f))), some (.int (nI c)), some (.int (nI k)), x6] [] (X v) 0 0 := by
  intro g
  induction g with
  | zero =>
    intro k v x6 hk hv hO hK
    refine gr_iload dX9_answers_24 rfl (gr_bipush (v := nI 13) dX9_answers_26 (by decide) ?_)
    refine gr_icmpgeN 106 dX9_answers_28 (by decide) (by omega) (by omega) (fun _ => ?_) (fun z => absurd z (by omega))
    exact kx v _ _ (fun j hj => hv j (by omega)) hO hK
  | succ g ih =>
    intro k v x6 hk hv hO hK
    refine gr_iload dX9_answers_24 rfl (gr_bipush (v := nI 13) dX9_answers_26 (by decide) ?_)
    refine gr_icmpgeN 106 dX9_answers_28 (by decide) (by omega) (by omega) (fun z => absurd z (by omega)) (fun _ => ?_)
    refine gr_bipush (v := nI 12) dX9_answers_31 (by decide) ?_
    refine gr_iload dX9_answers_33 rfl ?_
    refine gr_isubN dX9_answers_35 (by omega) ?_
    refine gr_istore dX9_answers_36 (by decide) rfl ?_
    refine gr_aload_n dX9_answers_38 rfl ?_
    refine gr_iload_n dX9_answers_39 rfl ?_
    refine gr_bipush (v := nI 13) dX9_answers_40 (by decide) ?_
    refine gr_iload_n dX9_answers_42 rfl ?_
    refine gr_imulN dX9_answers_43 ?_
    refine gr_iaddN dX9_answers_44 ?_
    refine gr_iload dX9_answers_45 rfl ?_
    refine gr_iaddN dX9_answers_47 ?_
    refine gr_iload dX9_answers_48 rfl ?_
    refine gr_iload dX9_answers_50 rfl ?_
    --
    refine gr_icmpneN 59 dX9_answers_52 (by decide) (by omega) (by omega) (fun c_52 => ?_) (fun c_52 => ?_)
    · refine gr_aload_n dX9_answers_59 rfl ?_
      refine gr_getf dX9_answers_60 cls_X9 20 (by decide) fl_X9_69 (h0 _) rfl ?_
      refine gr_iload dX9_answers_63 rfl ?_
      refine gr_iaload dX9_answers_65 (h14 _) (by omega) (by decide) ?_
      --
      rcases hq : pv (12 - k) with _ | p
      · refine gr_top (congrArg Value.int (show optI none = (-1 : Int32) from rfl)) (gr_ifge 73 dX9_answers_66 (by decide) (fun z => absurd z (by decide)) (fun _ => ?_))
        refine gr_iconst (v := nI (0 : zp).val) dX9_answers_69 rfl ?_
        refine gr_goto 99 dX9_answers_70 (by decide) ?_
        refine gr_iastoreF dX9_answers_99 (hb _) (by omega) (by omega) ?_
        rw [hw]
        refine gr_iinc (v := nI (_ + 1)) dX9_answers_100 rfl (nI_1 _) (by decide) rfl ?_
        refine gr_goto 24 dX9_answers_103 (by decide) ?_
        refine ih (k + 1) _ _ (by omega) (fun j hj => ?_) (fun f1 hf1 hp1 j hj => ?_) (fun m hm => ?_)
        · by_cases e : j = k
          · subst e
            rw [show f0 + (cnt (rvp pv) f * 13 + j) = f0 + 13 * cnt (rvp pv) f + j by omega, va_us]
            unfold vecF
            rw [if_neg (by omega), show rvp pv j = none from hq]
          · rw [va_un (by omega)]; exact hv j (by omega)
        · have := cnt_mono (pv := rvp pv) hf1 hp1
          rw [va_un (by omega)]; exact hO f1 hf1 hp1 j hj
        · rw [va_un (by omega)]; exact hK m hm
      · have hp19 := hpv (12 - k) p (by omega) hq
        refine gr_top (congrArg Value.int (show optI (some p) = nI p from rfl)) (gr_ifge 73 dX9_answers_66 (by decide) (fun _ => ?_) (fun z => absurd (Int32.not_lt.mp (nI_pos (by omega))) z))
        refine gr_sipush (v := nI 32003) dX9_answers_73 (by decide) ?_
        refine gr_aload_n dX9_answers_76 rfl ?_
        refine gr_getf dX9_answers_77 cls_X9 17 (by decide) fl_X9_60 (h0 _) rfl ?_
        refine gr_bipush (v := nI 14) dX9_answers_80 (by decide) ?_
        refine gr_aload_n dX9_answers_82 rfl ?_
        refine gr_getf dX9_answers_83 cls_X9 20 (by decide) fl_X9_69 (h0 _) rfl ?_
        refine gr_iload dX9_answers_86 rfl ?_
        refine gr_iaload dX9_answers_88 (h14 _) (by omega) (by decide) ?_
        refine gr_top (congrArg Value.int (show optI (pv (12 - k)) = nI p by rw [hq]; rfl)) ?_
        refine gr_imulN dX9_answers_89 ?_
        refine gr_iload dX9_answers_90 rfl ?_
        refine gr_iaddN dX9_answers_92 ?_
        refine gr_ialoadF dX9_answers_93 (h11 _) (by omega) (by decide) ?_
        refine gr_isubN dX9_answers_94 (by have := zl (ta (14 * p + c)); omega) ?_
        refine gr_remP (x := -(ta (14 * p + c))) dX9_answers_95 dX9_answers_98 (by omega) (zneg_mod _) ?_
        refine gr_iastoreF dX9_answers_99 (hb _) (by omega) (by omega) ?_
        rw [hw]
        refine gr_iinc (v := nI (_ + 1)) dX9_answers_100 rfl (nI_1 _) (by decide) rfl ?_
        refine gr_goto 24 dX9_answers_103 (by decide) ?_
        refine ih (k + 1) _ _ (by omega) (fun j hj => ?_) (fun f1 hf1 hp1 j hj => ?_) (fun m hm => ?_)
        · by_cases e : j = k
          · subst e
            rw [show f0 + (cnt (rvp pv) f * 13 + j) = f0 + 13 * cnt (rvp pv) f + j by omega, va_us]
            unfold vecF
            rw [if_neg (by omega), show rvp pv j = some p from hq, hf]
            show _ = -(tM ta p (12 - c))
            rw [tM_c ta p hc]
          · rw [va_un (by omega)]; exact hv j (by omega)
        · have := cnt_mono (pv := rvp pv) hf1 hp1
          rw [va_un (by omega)]; exact hO f1 hf1 hp1 j hj
        · rw [va_un (by omega)]; exact hK m hm
    · refine gr_iconst (v := nI (1 : zp).val) dX9_answers_55 rfl ?_
      refine gr_goto 99 dX9_answers_56 (by decide) ?_
      refine gr_iastoreF dX9_answers_99 (hb _) (by omega) (by omega) ?_
      rw [hw]
      refine gr_iinc (v := nI (_ + 1)) dX9_answers_100 rfl (nI_1 _) (by decide) rfl ?_
      refine gr_goto 24 dX9_answers_103 (by decide) ?_
      refine ih (k + 1) _ _ (by omega) (fun j hj => ?_) (fun f1 hf1 hp1 j hj => ?_) (fun m hm => ?_)
      · by_cases e : j = k
        · subst e
          rw [show f0 + (cnt (rvp pv) f * 13 + j) = f0 + 13 * cnt (rvp pv) f + j by omega, va_us]
          unfold vecF
          rw [if_pos (by omega)]
        · rw [va_un (by omega)]; exact hv j (by omega)
      · have := cnt_mono (pv := rvp pv) hf1 hp1
        rw [va_un (by omega)]; exact hO f1 hf1 hp1 j hj
      · rw [va_un (by omega)]; exact hK m hm

set_option maxHeartbeats 4000000 in
set_option maxRecDepth 100000 in
theorem c_an_outer (l : Launch) (E : ga_E) (d : Nat) (X : (Nat → zp) → ga_H) (A : Nat → Nat) (s : Nat → Int32) (ta : Nat → zp) (pv : Nat → Option Nat) (b N f0 : Nat) (h0 : ∀ v, X v (A 0) = some (ga_o 9 (mdF A s))) (h11 : ∀ v, X v (A 11) = some (ga_f E 266 ta)) (h14 : ∀ v, X v (A 14) = some (ga_i E 13 (fun j => optI (pv j)))) (hb : ∀ v, X v b = some (ga_f E N v)) (hw : ∀ v w, ga_up (X v) b (ga_f E N w) = X w) (hN : f0 + 169 ≤ N) (hN2 : N < 2 ^ 31) (hpv : ∀ j i, j < 13 → pv j = some i → i < 19) (v0 : Nat → zp) : ∀ (kk : Nat), kk ≤ 13 → ∀ (v : Nat → zp) (x5 x6 : Option Value), (∀ f9, f9 < 13 - kk → rvp pv f9 = none → ∀ j, j < 13 → v (f0 + (cnt (rvp pv) f9 * 13 + j)) = vecF (tM ta) (rvp pv) f9 j) → (∀ m, m < f0 → v m = v0 m) → ga_G l E mX9_answers (ga_Rm d 0 0) (ga_Z E (fun r0 h' => ∃ v, (∀ f9, f9 < 13 → rvp pv f9 = none → ∀ j, j < 13 → v (f0 + (cnt (rvp pv) f9 * 13 + j)) = vecF (tM ta) (rvp pv) f9 j) ∧ (∀ m, m < f0 → v m = v0 m) ∧ h' = X v ∧ r0 = some (.int (nI (cnt (rvp pv) 13)))) 0 0) 6 [some (.ref (A 0)), some (.ref b), some (.int (nI f0)), some (.int (nI (cnt (rvp pv) (13 - kk)))), some (.int (nI kk - nI 1)), x5, x6] [] (X v) 0 0 := by
  intro kk
  induction kk with
  | zero =>
    intro hk v x5 x6 hO hK
    refine gr_iload dX9_answers_6 rfl (gr_iflt 115 dX9_answers_8 (by decide) (fun _ => ?_) (fun z => absurd ((dn_neg (by decide)).mpr rfl) z))
    refine gr_iload_n dX9_answers_115 rfl ?_
    exact gr_ireturn dX9_answers_116 rfl (Nat.le_refl _) (Nat.le_refl _) ⟨v, hO, hK, rfl, rfl⟩
  | succ c ih =>
    intro hk v x5 x6 hO hK
    rw [dn_top]
    rw [show 13 - (c + 1) = 12 - c by omega] at hO ⊢
    have hle := cnt_le (rvp pv) (12 - c)
    refine gr_iload dX9_answers_6 rfl (gr_ifltN dX9_answers_8 115 (by decide) (by omega) ?_)
    refine gr_aload_n dX9_answers_11 rfl (gr_getf dX9_answers_12 cls_X9 20 (by decide) fl_X9_69 (h0 _) rfl (gr_iload dX9_answers_15 rfl (gr_iaload dX9_answers_17 (h14 _) (by omega) (by decide) ?_)))
    have hrv : rvp pv (12 - c) = pv c := by unfold rvp; rw [show 12 - (12 - c) = c by omega]
    have e13 : 13 - c = 12 - c + 1 := by omega
    rcases hq : pv c with _ | p
    · refine gr_top (congrArg Value.int (show optI none = (-1 : Int32) from rfl)) (gr_ifge 109 dX9_answers_18 (by decide) (fun z => absurd z (by decide)) (fun _ => ?_))
      refine gr_iconst (v := nI 0) dX9_answers_21 rfl (gr_istore dX9_answers_22 (by decide) rfl ?_)
      refine c_an_inner l E d X A s ta pv b N f0 h0 h11 h14 hb hw hN hN2 hpv v0 c (12 - c) (by omega) rfl (by omega) (fun v2 y5 y6 hv2 hO2 hK2 => ?_) 13 0 v _ (by omega) (fun j hj => absurd hj (by omega)) hO hK
      refine gr_iinc (v := nI (_ + 1)) dX9_answers_106 rfl (nI_1 _) (by decide) rfl ?_
      refine gr_iinc (v := nI c - nI 1) dX9_answers_109 rfl (dn_step c) (by decide) rfl ?_
      refine gr_goto 6 dX9_answers_112 (by decide) ?_
      have ec : cnt (rvp pv) (13 - c) = cnt (rvp pv) (12 - c) + 1 := by rw [e13, cnt_s, if_pos (hrv.trans hq)]
      rw [← ec]
      refine ih (by omega) v2 _ _ (fun f hf hp j hj => ?_) hK2
      by_cases e : f = 12 - c
      · subst e; exact hv2 j hj
      · exact hO2 f (by omega) hp j hj
    · refine gr_top (congrArg Value.int (show optI (some p) = nI p from rfl)) (gr_ifge 109 dX9_answers_18 (by decide) (fun _ => ?_) (fun z => absurd (Int32.not_lt.mp (nI_pos (by have := hpv c p (by omega) hq; omega))) z))
      refine gr_iinc (v := nI c - nI 1) dX9_answers_109 rfl (dn_step c) (by decide) rfl ?_
      refine gr_goto 6 dX9_answers_112 (by decide) ?_
      have ec : cnt (rvp pv) (13 - c) = cnt (rvp pv) (12 - c) := by rw [e13, cnt_s, if_neg (by rw [hrv, hq]; exact fun z => by cases z)]
      rw [← ec]
      refine ih (by omega) v _ _ (fun f hf hp j hj => ?_) hK
      by_cases e : f = 12 - c
      · subst e; rw [hrv, hq] at hp; cases hp
      · exact hO f (by omega) hp j hj

set_option maxHeartbeats 4000000 in
set_option maxRecDepth 100000 in
theorem c_answers (l : Launch) (E : ga_E) (d : Nat) (X : (Nat → zp) → ga_H) (A : Nat → Nat) (s : Nat → Int32) (ta : Nat → zp) (pv : Nat → Option Nat) (b N f0 : Nat) (h0 : ∀ v, X v (A 0) = some (ga_o 9 (mdF A s))) (h11 : ∀ v, X v (A 11) = some (ga_f E 266 ta)) (h14 : ∀ v, X v (A 14) = some (ga_i E 13 (fun j => optI (pv j)))) (hb : ∀ v, X v b = some (ga_f E N v)) (hw : ∀ v w, ga_up (X v) b (ga_f E N w) = X w) (hN : f0 + 169 ≤ N) (hN2 : N < 2 ^ 31) (hpv : ∀ j i, j < 13 → pv j = some i → i < 19) (v0 : Nat → zp) : ga_Ok l E d mX9_answers [.ref (A 0), .ref b, .int (nI f0)] (X v0) 0 0 (fun r0 h' => ∃ v, (∀ f9, f9 < 13 → rvp pv f9 = none → ∀ j, j < 13 → v (f0 + (cnt (rvp pv) f9 * 13 + j)) = vecF (tM ta) (rvp pv) f9 j) ∧ (∀ m, m < f0 → v m = v0 m) ∧ h' = X v ∧ r0 = some (.int (nI (cnt (rvp pv) 13)))) := by
  refine ga_Ok.of 4 _ (by decide) rfl (Nat.le_of_ble_eq_true rfl) rfl ?_
  refine gr_iconst (v := nI 0) dX9_answers_0 rfl ?_
  refine gr_istore_n dX9_answers_1 (by decide) rfl ?_
  refine gr_bipush (v := nI 12) dX9_answers_2 (by decide) ?_
  refine gr_istore dX9_answers_4 (by decide) rfl ?_
  exact c_an_outer l E d X A s ta pv b N f0 h0 h11 h14 hb hw hN hN2 hpv v0 13 (by omega) v0 _ _ (fun f hf => absurd hf (by omega)) (fun _ _ => rfl)

def GrM (fa : Nat → zp) (o : Nat) (q : Option Nat) : Prop := (q = none ∧ ∀ i, i ≤ o → ∀ a, a < 7 → fa (7 * i + a) = 0) ∨ ∃ i, q = some i ∧ i ≤ o ∧ (∃ a, a < 7 ∧ fa (7 * i + a) ≠ 0) ∧ ∀ k, i < k → k ≤ o → ∀ a, a < 7 → fa (7 * k + a) = 0
def HiM (fa : Nat → zp) (o t : Nat) : Prop := t < 7 ∧ (t = 0 ∨ ∃ i, i ≤ o ∧ fa (7 * i + t) ≠ 0) ∧ ∀ a, t < a → a < 7 → ∀ i, i ≤ o → fa (7 * i + a) = 0

set_option maxHeartbeats 4000000 in
set_option maxRecDepth 100000 in
theorem c_gr_inner (l : Launch) (E : ga_E) (d : Nat) (h : ga_H) (A : Nat → Nat) (hA : ga_inj A 16) (s : Nat → Int32) (fa si sr pu va ro pa ba ma ti ta im sh un : Nat → zp) (pv : Nat → Option Nat) (o : Nat) (ho : s 1 = nI o) (ho4 : o ≤ 4) (i : Nat) (hi : i ≤ o) (hup : ∀ k, i < k → k ≤ o → ∀ a, a < 7 → fa (7 * k + a) = 0) (kx : ∀ x2 : Option Value, (∀ a, a < 7 → fa (7 * i + a) = 0) → ga_G l E mX9_greatest (ga_Rm d 0 0) (ga_Z E (fun r0 h' => h' = mdH E h A s fa si sr pu va ro pa ba ma ti ta im sh pv un ∧ ∃ q, r0 = some (.int (optI q)) ∧ GrM fa o q) 0 0) 39 [some (.ref (A 0)), some (.int (nI i)), x2] [] (mdH E h A s fa si sr pu va ro pa ba ma ti ta im sh pv un) 0 0) : ∀ (g a : Nat), a + g = 7 → (∀ a1, a1 < a → fa (7 * i + a1) = 0) → ga_G l E mX9_greatest (ga_Rm d 0 0) (ga_Z E (fun r0 h' => h' = mdH E h A s fa si sr pu va ro pa ba ma ti ta im sh pv un ∧ ∃ q, r0 = some (.int (optI q)) ∧ GrM fa o q) 0 0) 11 [some (.ref (A 0)), some (.int (nI i)), some (.int (nI a))] [] (mdH E h A s fa si sr pu va ro pa ba ma ti ta im sh pv un) 0 0 := by
  intro g
  induction g with
  | zero =>
    intro a ha hz
    refine gr_iload_n dX9_greatest_11 rfl (gr_bipush (v := nI 7) dX9_greatest_12 (by decide) ?_)
    refine gr_icmpgeN 39 dX9_greatest_14 (by decide) (by omega) (by omega) (fun _ => ?_) (fun z => absurd z (by omega))
    exact kx _ (fun a1 ha1 => hz a1 (by omega))
  | succ g ih =>
    intro a ha hz
    refine gr_iload_n dX9_greatest_11 rfl (gr_bipush (v := nI 7) dX9_greatest_12 (by decide) ?_)
    refine gr_icmpgeN 39 dX9_greatest_14 (by decide) (by omega) (by omega) (fun z => absurd z (by omega)) (fun _ => ?_)
    refine gr_aload_n dX9_greatest_17 rfl ?_
    refine gr_getf dX9_greatest_18 cls_X9 2 (by decide) fl_X9_13 (md_0 hA) rfl ?_
    refine gr_bipush (v := nI 7) dX9_greatest_21 (by decide) ?_
    refine gr_iload_n dX9_greatest_23 rfl ?_
    refine gr_imulN dX9_greatest_24 ?_
    refine gr_iload_n dX9_greatest_25 rfl ?_
    refine gr_iaddN dX9_greatest_26 ?_
    refine gr_ialoadF dX9_greatest_27 (md_1 hA) (by omega) (by decide) ?_
    refine gr_ifeqN 33 dX9_greatest_28 (by decide) (by have := zl (fa (7 * i + a)); omega) (fun c_28 => ?_) (fun c_28 => ?_)
    · refine gr_iinc (v := nI (_ + 1)) dX9_greatest_33 rfl (nI_1 _) (by decide) rfl ?_
      refine gr_goto 11 dX9_greatest_36 (by decide) ?_
      refine ih (a + 1) (by omega) (fun a1 ha1 => ?_)
      by_cases e : a1 = a
      · subst e; exact Fin.ext c_28
      · exact hz a1 (by omega)
    · refine gr_iload_n dX9_greatest_31 rfl ?_
      exact gr_ireturn dX9_greatest_32 rfl (Nat.le_refl _) (Nat.le_refl _) ⟨rfl, some i, rfl, Or.inr ⟨i, rfl, hi, ⟨a, by omega, fun z => c_28 (by rw [z]; rfl)⟩, hup⟩⟩

set_option maxHeartbeats 4000000 in
set_option maxRecDepth 100000 in
theorem c_gr_outer (l : Launch) (E : ga_E) (d : Nat) (h : ga_H) (A : Nat → Nat) (hA : ga_inj A 16) (s : Nat → Int32) (fa si sr pu va ro pa ba ma ti ta im sh un : Nat → zp) (pv : Nat → Option Nat) (o : Nat) (ho : s 1 = nI o) (ho4 : o ≤ 4) : ∀ (k : Nat), k ≤ o + 1 → ∀ (x2 : Option Value), (∀ i, k ≤ i → i ≤ o → ∀ a, a < 7 → fa (7 * i + a) = 0) → ga_G l E mX9_greatest (ga_Rm d 0 0) (ga_Z E (fun r0 h' => h' = mdH E h A s fa si sr pu va ro pa ba ma ti ta im sh pv un ∧ ∃ q, r0 = some (.int (optI q)) ∧ GrM fa o q) 0 0) 5 [some (.ref (A 0)), some (.int (nI k - nI 1)), x2] [] (mdH E h A s fa si sr pu va ro pa ba ma ti ta im sh pv un) 0 0 := by
  intro k
  induction k with
  | zero =>
    intro hk x2 hz
    refine gr_iload_n dX9_greatest_5 rfl (gr_iflt 45 dX9_greatest_6 (by decide) (fun _ => ?_) (fun z => absurd ((dn_neg (by decide)).mpr rfl) z))
    refine gr_iconst (v := -1) dX9_greatest_45 (by decide) ?_
    exact gr_ireturn dX9_greatest_46 rfl (Nat.le_refl _) (Nat.le_refl _) ⟨rfl, none, rfl, Or.inl ⟨rfl, fun i hi => hz i (by omega) hi⟩⟩
  | succ i ih =>
    intro hk x2 hz
    rw [dn_top]
    refine gr_iload_n dX9_greatest_5 rfl (gr_ifltN dX9_greatest_6 45 (by decide) (by omega) ?_)
    refine gr_iconst (v := nI 0) dX9_greatest_9 rfl (gr_istore_n dX9_greatest_10 (by decide) rfl ?_)
    refine c_gr_inner l E d h A hA s fa si sr pu va ro pa ba ma ti ta im sh un pv o ho ho4 i (by omega) (fun k hk hko => hz k (by omega) hko) (fun y2 hzi => ?_) 7 0 (by omega) (fun a1 ha1 => absurd ha1 (by omega))
    refine gr_iinc (v := nI i - nI 1) dX9_greatest_39 rfl (dn_step i) (by decide) rfl ?_
    refine gr_goto 5 dX9_greatest_42 (by decide) ?_
    refine ih (by omega) _ (fun i1 h1 h2 => ?_)
    by_cases e : i1 = i
    · subst e; exact hzi
    · exact hz i1 (by omega) h2

set_option maxHeartbeats 4000000 in
set_option maxRecDepth 100000 in
theorem c_greatest (l : Launch) (E : ga_E) (d : Nat) (h : ga_H) (A : Nat → Nat) (hA : ga_inj A 16) (s : Nat → Int32) (fa si sr pu va ro pa ba ma ti ta im sh un : Nat → zp) (pv : Nat → Option Nat) (o : Nat) (ho : s 1 = nI o) (ho4 : o ≤ 4) : ga_Ok l E d mX9_greatest [.ref (A 0)] (mdH E h A s fa si sr pu va ro pa ba ma ti ta im sh pv un) 0 0 (fun r0 h' => h' = mdH E h A s fa si sr pu va ro pa ba ma ti ta im sh pv un ∧ ∃ q, r0 = some (.int (optI q)) ∧ GrM fa o q) := by
  refine ga_Ok.of 2 _ (by decide) rfl (Nat.le_of_ble_eq_true rfl) rfl ?_
  refine gr_aload_n dX9_greatest_0 rfl ?_
  refine gr_getf dX9_greatest_1 cls_X9 1 (by decide) fl_X9_75 (md_0 hA) rfl (gr_top (congrArg Value.int (ho.trans (dn_top o).symm)) ?_)
  refine gr_istore_n dX9_greatest_4 (by decide) rfl ?_
  exact c_gr_outer l E d h A hA s fa si sr pu va ro pa ba ma ti ta im sh un pv o ho ho4 (o + 1) (by omega) _ (fun i h1 h2 => absurd h1 (by omega))

set_option maxHeartbeats 4000000 in
set_option maxRecDepth 100000 in
theorem c_hi_inner (l : Launch) (E : ga_E) (d : Nat) (h : ga_H) (A : Nat → Nat) (hA : ga_inj A 16) (s : Nat → Int32) (fa si sr pu va ro pa ba ma ti ta im sh un : Nat → zp) (pv : Nat → Option Nat) (o : Nat) (ho : s 1 = nI o) (ho4 : o ≤ 4) (a : Nat) (ha7 : a < 7) (hup : ∀ k, a < k → k < 7 → ∀ i, i ≤ o → fa (7 * i + k) = 0) (kx : ∀ x2 : Option Value, (∀ i, i ≤ o → fa (7 * i + a) = 0) → ga_G l E mX9_highest (ga_Rm d 0 0) (ga_Z E (fun r0 h' => h' = mdH E h A s fa si sr pu va ro pa ba ma ti ta im sh pv un ∧ ∃ t, r0 = some (.int (nI t)) ∧ HiM fa o t) 0 0) 39 [some (.ref (A 0)), some (.int (nI a)), x2] [] (mdH E h A s fa si sr pu va ro pa ba ma ti ta im sh pv un) 0 0) : ∀ (g i : Nat), i + g = o + 1 → (∀ i1, i1 < i → fa (7 * i1 + a) = 0) → ga_G l E mX9_highest (ga_Rm d 0 0) (ga_Z E (fun r0 h' => h' = mdH E h A s fa si sr pu va ro pa ba ma ti ta im sh pv un ∧ ∃ t, r0 = some (.int (nI t)) ∧ HiM fa o t) 0 0) 9 [some (.ref (A 0)), some (.int (nI a)), some (.int (nI i))] [] (mdH E h A s fa si sr pu va ro pa ba ma ti ta im sh pv un) 0 0 := by
  intro g
  induction g with
  | zero =>
    intro i hi hz
    refine gr_iload_n dX9_highest_9 rfl (gr_aload_n dX9_highest_10 rfl (gr_getf dX9_highest_11 cls_X9 1 (by decide) fl_X9_75 (md_0 hA) rfl (gr_top (congrArg Value.int ho) ?_)))
    refine gr_icmpgtN 39 dX9_highest_14 (by decide) (by omega) (by omega) (fun _ => ?_) (fun z => absurd z (by omega))
    exact kx _ (fun a1 ha1 => hz a1 (by omega))
  | succ g ih =>
    intro i hi hz
    refine gr_iload_n dX9_highest_9 rfl (gr_aload_n dX9_highest_10 rfl (gr_getf dX9_highest_11 cls_X9 1 (by decide) fl_X9_75 (md_0 hA) rfl (gr_top (congrArg Value.int ho) ?_)))
    refine gr_icmpgtN 39 dX9_highest_14 (by decide) (by omega) (by omega) (fun z => absurd z (by omega)) (fun _ => ?_)
    refine gr_aload_n dX9_highest_17 rfl ?_
    refine gr_getf dX9_highest_18 cls_X9 2 (by decide) fl_X9_13 (md_0 hA) rfl ?_
    refine gr_bipush (v := nI 7) dX9_highest_21 (by decide) ?_
    refine gr_iload_n dX9_highest_23 rfl ?_
    refine gr_imulN dX9_highest_24 ?_
    refine gr_iload_n dX9_highest_25 rfl ?_
    refine gr_iaddN dX9_highest_26 ?_
    refine gr_ialoadF dX9_highest_27 (md_1 hA) (by omega) (by decide) ?_
    refine gr_ifeqN 33 dX9_highest_28 (by decide) (by have := zl (fa (7 * i + a)); omega) (fun c_28 => ?_) (fun c_28 => ?_)
    · refine gr_iinc (v := nI (_ + 1)) dX9_highest_33 rfl (nI_1 _) (by decide) rfl ?_
      refine gr_goto 9 dX9_highest_36 (by decide) ?_
      refine ih (i + 1) (by omega) (fun a1 ha1 => ?_)
      by_cases e : a1 = i
      · subst e; exact Fin.ext c_28
      · exact hz a1 (by omega)
    · refine gr_iload_n dX9_highest_31 rfl ?_
      exact gr_ireturn dX9_highest_32 rfl (Nat.le_refl _) (Nat.le_refl _) ⟨rfl, a, rfl, ha7, Or.inr ⟨i, by omega, fun z => c_28 (by rw [z]; rfl)⟩, hup⟩

set_option maxHeartbeats 4000000 in
set_option maxRecDepth 100000 in
theorem c_hi_outer (l : Launch) (E : ga_E) (d : Nat) (h : ga_H) (A : Nat → Nat) (hA : ga_inj A 16) (s : Nat → Int32) (fa si sr pu va ro pa ba ma ti ta im sh un : Nat → zp) (pv : Nat → Option Nat) (o : Nat) (ho : s 1 = nI o) (ho4 : o ≤ 4) : ∀ (a : Nat), a < 7 → ∀ (x2 : Option Value), (∀ k, a < k → k < 7 → ∀ i, i ≤ o → fa (7 * i + k) = 0) → ga_G l E mX9_highest (ga_Rm d 0 0) (ga_Z E (fun r0 h' => h' = mdH E h A s fa si sr pu va ro pa ba ma ti ta im sh pv un ∧ ∃ t, r0 = some (.int (nI t)) ∧ HiM fa o t) 0 0) 3 [some (.ref (A 0)), some (.int (nI a)), x2] [] (mdH E h A s fa si sr pu va ro pa ba ma ti ta im sh pv un) 0 0 := by
  intro a
  induction a with
  | zero =>
    intro ha x2 hz
    refine gr_iload_n dX9_highest_3 rfl (gr_ifleN 45 dX9_highest_4 (by decide) (by omega) (fun _ => ?_) (fun z => absurd rfl z))
    refine gr_iconst (v := nI 0) dX9_highest_45 rfl ?_
    exact gr_ireturn dX9_highest_46 rfl (Nat.le_refl _) (Nat.le_refl _) ⟨rfl, 0, rfl, by omega, Or.inl rfl, hz⟩
  | succ a ih =>
    intro ha x2 hz
    refine gr_iload_n dX9_highest_3 rfl (gr_ifleN 45 dX9_highest_4 (by decide) (by omega) (fun z => absurd z (by omega)) (fun _ => ?_))
    refine gr_iconst (v := nI 0) dX9_highest_7 rfl (gr_istore_n dX9_highest_8 (by decide) rfl ?_)
    refine c_hi_inner l E d h A hA s fa si sr pu va ro pa ba ma ti ta im sh un pv o ho ho4 (a + 1) ha hz (fun y2 hza => ?_) (o + 1) 0 (by omega) (fun a1 ha1 => absurd ha1 (by omega))
    refine gr_iinc (v := nI a) dX9_highest_39 rfl (dn_stepS a) (by decide) rfl ?_
    refine gr_goto 3 dX9_highest_42 (by decide) ?_
    refine ih (by omega) _ (fun k h1 h2 => ?_)
    by_cases e : k = a + 1
    · subst e; exact hza
    · exact hz k (by omega) h2

set_option maxHeartbeats 4000000 in
set_option maxRecDepth 100000 in
theorem c_highest (l : Launch) (E : ga_E) (d : Nat) (h : ga_H) (A : Nat → Nat) (hA : ga_inj A 16) (s : Nat → Int32) (fa si sr pu va ro pa ba ma ti ta im sh un : Nat → zp) (pv : Nat → Option Nat) (o : Nat) (ho : s 1 = nI o) (ho4 : o ≤ 4) : ga_Ok l E d mX9_highest [.ref (A 0)] (mdH E h A s fa si sr pu va ro pa ba ma ti ta im sh pv un) 0 0 (fun r0 h' => h' = mdH E h A s fa si sr pu va ro pa ba ma ti ta im sh pv un ∧ ∃ t, r0 = some (.int (nI t)) ∧ HiM fa o t) := by
  refine ga_Ok.of 2 _ (by decide) rfl (Nat.le_of_ble_eq_true rfl) rfl ?_
  refine gr_bipush (v := nI 6) dX9_highest_0 (by decide) ?_
  refine gr_istore_n dX9_highest_2 (by decide) rfl ?_
  exact c_hi_outer l E d h A hA s fa si sr pu va ro pa ba ma ti ta im sh un pv o ho ho4 6 (by omega) _ (fun k h1 h2 => absurd h1 (by omega))

set_option maxHeartbeats 4000000 in
set_option maxRecDepth 100000 in
theorem c_thrown (l : Launch) (E : ga_E) (d : Nat) (h : ga_H) (A : Nat → Nat) (hA : ga_inj A 16) (s : Nat → Int32) (fa si sr pu va ro pa ba ma ti ta im sh un : Nat → zp) (pv : Nat → Option Nat) : ga_Ok l E d mX9_thrown [.ref (A 0)] (mdH E h A s fa si sr pu va ro pa ba ma ti ta im sh pv un) 0 0 (fun r0 h' => h' = mdH E h A s fa si sr pu va ro pa ba ma ti ta im sh pv un ∧ r0 = some (.int (s 0))) := by
  refine ga_Ok.of 0 _ (by decide) rfl (Nat.le_of_ble_eq_true rfl) rfl ?_
  refine gr_aload_n dX9_thrown_0 rfl ?_
  refine gr_getf dX9_thrown_1 cls_X9 0 (by decide) fl_X9_7 (md_0 hA) rfl ?_
  exact gr_ireturn dX9_thrown_4 rfl (Nat.le_refl _) (Nat.le_refl _) ⟨rfl, rfl⟩

set_option maxHeartbeats 4000000 in
set_option maxRecDepth 100000 in
theorem c_unknown (l : Launch) (E : ga_E) (d : Nat) (h : ga_H) (A : Nat → Nat) (hA : ga_inj A 16) (s : Nat → Int32) (fa si sr pu va ro pa ba ma ti ta im sh un : Nat → zp) (pv : Nat → Option Nat) (kn : Bool) (hk : s 8 = bI kn) : ga_Ok l E d mX9_unknown [.ref (A 0)] (mdH E h A s fa si sr pu va ro pa ba ma ti ta im sh pv un) 0 0 (fun r0 h' => h' = mdH E h A (va_up s 0 (bI (!kn))) fa si sr pu va ro pa ba ma ti ta im sh pv un ∧ r0 = some (.int (bI (!kn)))) := by
  refine ga_Ok.of 0 _ (by decide) rfl (Nat.le_of_ble_eq_true rfl) rfl ?_
  cases kn
  · refine gr_aload_n dX9_unknown_0 rfl ?_
    refine gr_aload_n dX9_unknown_1 rfl ?_
    refine gr_getf dX9_unknown_2 cls_X9 8 (by decide) fl_X9_32 (md_0 hA) rfl (gr_top (congrArg Value.int (show s 8 = nI 0 from hk)) ?_)
    refine gr_ifeq 12 dX9_unknown_5 (by decide) (fun _ => ?_) (fun z => absurd rfl z)
    refine gr_iconst (v := nI 1) dX9_unknown_12 rfl ?_
    refine gr_putf dX9_unknown_13 cls_X9 0 (by decide) fl_X9_7 rfl rfl rfl (Nat.le_of_ble_eq_true rfl) (md_0 hA) ?_
    rw [md_s0 hA]
    refine gr_aload_n dX9_unknown_16 rfl ?_
    refine gr_getf dX9_unknown_17 cls_X9 8 (by decide) fl_X9_32 (md_0 hA) rfl (gr_top (congrArg Value.int (show va_up s 0 (nI 1) 8 = nI 0 from hk)) ?_)
    refine gr_ifne 27 dX9_unknown_20 (by decide) (fun z => absurd rfl z) (fun _ => ?_)
    refine gr_iconst (v := nI 1) dX9_unknown_23 rfl ?_
    refine gr_goto 28 dX9_unknown_24 (by decide) ?_
    exact gr_zreturn dX9_unknown_28 rfl rfl (Nat.le_refl _) (Nat.le_refl _) ⟨rfl, rfl⟩
  · refine gr_aload_n dX9_unknown_0 rfl ?_
    refine gr_aload_n dX9_unknown_1 rfl ?_
    refine gr_getf dX9_unknown_2 cls_X9 8 (by decide) fl_X9_32 (md_0 hA) rfl (gr_top (congrArg Value.int (show s 8 = nI 1 from hk)) ?_)
    refine gr_ifeq 12 dX9_unknown_5 (by decide) (fun z => absurd z (by decide)) (fun _ => ?_)
    refine gr_iconst (v := nI 0) dX9_unknown_8 rfl ?_
    refine gr_goto 13 dX9_unknown_9 (by decide) ?_
    refine gr_putf dX9_unknown_13 cls_X9 0 (by decide) fl_X9_7 rfl rfl rfl (Nat.le_of_ble_eq_true rfl) (md_0 hA) ?_
    rw [md_s0 hA]
    refine gr_aload_n dX9_unknown_16 rfl ?_
    refine gr_getf dX9_unknown_17 cls_X9 8 (by decide) fl_X9_32 (md_0 hA) rfl (gr_top (congrArg Value.int (show va_up s 0 (nI 0) 8 = nI 1 from hk)) ?_)
    refine gr_ifne 27 dX9_unknown_20 (by decide) (fun _ => ?_) (fun z => absurd z (by decide))
    refine gr_iconst (v := nI 0) dX9_unknown_27 rfl ?_
    exact gr_zreturn dX9_unknown_28 rfl rfl (Nat.le_refl _) (Nat.le_refl _) ⟨rfl, rfl⟩
