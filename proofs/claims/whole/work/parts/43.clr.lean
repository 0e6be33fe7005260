/-! The reference: clears -/
theorem EchI_congr {M C C' : Nat → Nat → zp} {c : Nat} {u u' : Nat → Bool} {pv pv' : Nat → Option Nat} (hc : c ≤ 13) (h : EchI M c C u pv) (eC : ∀ i, i < 19 → ∀ j, j < 14 → C' i j = C i j) (eu : ∀ i, i < 19 → u' i = u i) (ep : ∀ j, j < c → pv' j = pv j) : EchI M c C' u' pv' := by
  obtain ⟨h1, h2, h3, h4⟩ := h
  refine ⟨fun x => (h1 x).trans (Sol.congr eC x), fun i hi z => ?_, fun j hj i e => ?_, fun i hi z j hj => ?_⟩
  · rw [eu i hi] at z
    obtain ⟨j, a, b⟩ := h2 i hi z
    exact ⟨j, a, by rw [ep j a]; exact b⟩
  · rw [ep j hj] at e
    obtain ⟨a1, a2, a3, a4, a5⟩ := h3 j hj i e
    exact ⟨a1, by rw [eu i a1]; exact a2, by rw [eC i a1 j (by omega)]; exact a3, fun k hk hne => by rw [eC k hk j (by omega)]; exact a4 k hk hne, fun k hk => by rw [eC i a1 k (by omega)]; exact a5 k hk⟩
  · rw [eu i hi] at z
    rw [eC i hi j (by omega)]
    exact h4 i hi z j hj
def swp (k r i : Nat) : Nat := if i = k then r else if i = r then k else i
theorem swp_lt {k r i : Nat} (hk : k < 19) (hr : r < 19) (hi : i < 19) : swp k r i < 19 := by unfold swp; split <;> (try split) <;> omega
theorem swp_swp (k r i : Nat) : swp k r (swp k r i) = i := by
  unfold swp
  by_cases a : i = k
  · subst a; by_cases b : r = i <;> simp [b]
  · by_cases b : i = r
    · subst b; simp [a]
    · simp [a, b]
theorem swp_o {k r i : Nat} (h1 : i ≠ k) (h2 : i ≠ r) : swp k r i = i := by unfold swp; rw [if_neg h1, if_neg h2]
theorem EchI_swap {M C : Nat → Nat → zp} {c : Nat} {u : Nat → Bool} {pv : Nat → Option Nat} {k r : Nat} (h : EchI M c C u pv) (hk : k < 19) (hr : r < 19) (uk : u k = false) (ur : u r = false) : EchI M c (fun i => C (swp k r i)) u pv := by
  obtain ⟨h1, h2, h3, h4⟩ := h
  have key : ∀ i, i < 19 → u i = false → swp k r i < 19 ∧ u (swp k r i) = false := fun i hi z => by
    refine ⟨swp_lt hk hr hi, ?_⟩
    unfold swp
    split
    · exact ur
    · split
      · exact uk
      · exact z
  have used : ∀ i, u i = true → swp k r i = i := fun i z => swp_o (fun e => by rw [e, uk] at z; cases z) (fun e => by rw [e, ur] at z; cases z)
  refine ⟨fun x => (h1 x).trans ⟨fun z i hi => z (swp k r i) (swp_lt hk hr hi), fun z i hi => ?_⟩, h2, fun j hj i e => ?_, fun i hi z j hj => h4 _ (key i hi z).1 (key i hi z).2 j hj⟩
  · have := z (swp k r i) (swp_lt hk hr hi)
    show dot C i x = 0
    have e2 : dot (fun i => C (swp k r i)) (swp k r i) x = dot C (swp k r (swp k r i)) x := rfl
    rw [e2, swp_swp] at this
    exact this
  · obtain ⟨a1, a2, a3, a4, a5⟩ := h3 j hj i e
    refine ⟨a1, a2, by show C (swp k r i) j = 1; rw [used i a2]; exact a3, fun k1 hk1 hne => ?_, fun k1 hk1 => by show C (swp k r i) k1 = 0; rw [used i a2]; exact a5 k1 hk1⟩
    refine a4 _ (swp_lt hk hr hk1) (fun z => hne ?_)
    rw [← swp_swp k r k1, z]
    exact used i a2
/-- the table as a matrix whose columns go by powers upwards -/
def tM (T : Nat → zp) (k j : Nat) : zp := if j < 13 then T (14 * k + (12 - j)) else T (14 * k + 13)
theorem tM_c (T : Nat → zp) (k : Nat) {c : Nat} (hc : c < 13) : tM T k (12 - c) = T (14 * k + c) := by
  unfold tM; rw [if_pos (by omega), show 12 - (12 - c) = c by omega]
/-- which column of the table -/
def tcl (j : Nat) : Nat := if j < 13 then 12 - j else 13
theorem tcl_lt (j : Nat) : tcl j < 14 := by unfold tcl; split <;> omega
theorem tM_t (T : Nat → zp) (k j : Nat) : tM T k j = T (14 * k + tcl j) := by unfold tM tcl; split <;> rfl
def ltB (r : Nat) : Nat → Bool := fun i => decide (i < r)
def rvp (pv : Nat → Option Nat) : Nat → Option Nat := fun j => pv (12 - j)
theorem rvp_up {pv : Nat → Option Nat} {c : Nat} {o : Option Nat} (hc : c < 13) : ∀ j, j < 12 - c + 1 → rvp (va_up pv c o) j = va_up (rvp pv) (12 - c) o j := fun j hj => by
  unfold rvp
  by_cases e : j = 12 - c
  · subst e; rw [va_us, show 12 - (12 - c) = c by omega, va_us]
  · rw [va_un e, va_un (by omega)]
theorem ech_none {M : Nat → Nat → zp} {T : Nat → zp} {pv : Nat → Option Nat} {r c : Nat} (hc : c < 13) (h : EchI M (12 - c) (tM T) (ltB r) (rvp pv)) (hz : ∀ k, r ≤ k → k < 19 → T (14 * k + c) = 0) : EchI M (12 - c + 1) (tM T) (ltB r) (rvp (va_up pv c none)) := by
  have := EchI_step (12 - c) (tM T) (ltB r) (rvp pv) none (by omega) h (Or.inl ⟨rfl, fun i hi => ?_⟩)
  · exact EchI_congr (by omega) this (fun _ _ _ _ => rfl) (fun _ _ => rfl) (rvp_up hc)
  · by_cases e : i < r
    · exact Or.inl (decide_eq_true e)
    · exact Or.inr (by rw [tM_c T i hc]; exact hz i (by omega) hi)
theorem ech_some {M : Nat → Nat → zp} {T0 T1 T2 T3 : Nat → zp} {pv : Nat → Option Nat} {r c k : Nat} (hc : c < 13) (hr : r ≤ k) (hk : k < 19) (h : EchI M (12 - c) (tM T0) (ltB r) (rvp pv)) (hne : T0 (14 * k + c) ≠ 0)
    (h1 : ∀ i, i < 19 → ∀ j, j < 14 → T1 (14 * i + j) = T0 (14 * swp k r i + j))
    (h2 : ∀ i, i < 19 → ∀ j, j < 14 → T2 (14 * i + j) = if i = r then T1 (14 * i + j) * zinv (T1 (14 * r + c)) else T1 (14 * i + j))
    (h3 : ∀ i, i < 19 → ∀ j, j < 14 → T3 (14 * i + j) = if i = r then T2 (14 * i + j) else T2 (14 * i + j) - T2 (14 * i + c) * T2 (14 * r + j)) : EchI M (12 - c + 1) (tM T3) (ltB (r + 1)) (rvp (va_up pv c (some r))) := by
  have hr19 : r < 19 := by omega
  have s1 : EchI M (12 - c) (tM T1) (ltB r) (rvp pv) := EchI_congr (by omega) (EchI_swap h hk hr19 (decide_eq_false (by omega)) (decide_eq_false (by omega))) (fun i hi j hj => by rw [tM_t, h1 i hi _ (tcl_lt j), tM_t]) (fun _ _ => rfl) (fun _ _ => rfl)
  have hz : ∀ j, j < 12 - c → tM T1 r j = 0 := fun j hj => s1.2.2.2 r hr19 (decide_eq_false (by omega)) j hj
  have hp : tM T1 r (12 - c) ≠ 0 := by
    rw [tM_c T1 r hc, h1 r hr19 c (by omega)]
    have : swp k r r = k := by unfold swp; by_cases e : r = k <;> simp [e]
    rw [this]; exact hne
  have s2 := EchI_step (12 - c) (tM T1) (ltB r) (rvp pv) (some r) (by omega) s1 (Or.inr ⟨r, rfl, hr19, decide_eq_false (by omega), hp⟩)
  refine EchI_congr (by omega) s2 (fun i hi j hj => ?_) (fun i hi => ?_) (rvp_up hc)
  · show _ = clr (scl (tM T1) r (zinv (tM T1 r (12 - c)))) (12 - c) r i j
    have hs : ∀ j, j < 14 → scl (tM T1) r (zinv (tM T1 r (12 - c))) r j = tM T1 r j * zinv (tM T1 r (12 - c)) := fun j hj => by
      unfold scl; rw [va_us]; unfold sclI; rw [if_pos hj]
    have h2r : ∀ j, j < 14 → T2 (14 * r + j) = T1 (14 * r + j) * zinv (T1 (14 * r + c)) := fun j hj => by rw [h2 r hr19 j hj, if_pos rfl]
    by_cases e : i = r
    · subst e
      rw [clr_p, hs j hj, tM_t, tM_t, tM_c T1 i hc, h3 i hi _ (tcl_lt j), if_pos rfl, h2r _ (tcl_lt j)]
    · have hso : scl (tM T1) r (zinv (tM T1 r (12 - c))) i = tM T1 i := by unfold scl; rw [va_un e]
      have h2i : ∀ j, j < 14 → T2 (14 * i + j) = T1 (14 * i + j) := fun j hj => by rw [h2 i hi j hj, if_neg e]
      rw [clr_at (fun k1 hk1 => by rw [hs k1 (by omega), hz k1 hk1]; grind) hi e hj, hso, hs j hj, tM_c T1 i hc, tM_c T1 r hc, tM_t T3, tM_t T1 i, tM_t T1 r, h3 i hi _ (tcl_lt j), if_neg e, h2i _ (tcl_lt j), h2i c (by omega), h2r _ (tcl_lt j)]
  · show decide (i < r + 1) = va_up (ltB r) r true i
    by_cases e : i = r
    · subst e; rw [va_us]; exact decide_eq_true (by omega)
    · rw [va_un e]
      show decide (i < r + 1) = decide (i < r)
      rw [decide_eq_decide]; omega

set_option maxHeartbeats 4000000 in
set_option maxRecDepth 100000 in
theorem c_clr_find (l : Launch) (E : ga_E) (d : Nat) (h : ga_H) (A : Nat → Nat) (hA : ga_inj A 16) (s : Nat → Int32) (fa si sr pu va ro pa ba ma ti ta im sh un : Nat → zp) (pv : Nat → Option Nat) (M : Nat → Nat → zp) (T : Nat → zp) (r c : Nat) (hc : c < 13) (x4 x5 x6 x7 x8 x9 : Option Value) (kx : ∀ k, k ≤ 19 → r ≤ k → (k < 19 → T (14 * k + c) ≠ 0) → (∀ k1, r ≤ k1 → k1 < k → T (14 * k1 + c) = 0) → ga_G l E mX9_clears (ga_Rm (d + 1) 0 0) (ga_Z E (fun r0 h' => ∃ ta' pv' r, r ≤ 13 ∧ Ech M (tM ta') (ltB r) (rvp pv') ∧ h' = mdH E h A s fa si sr pu va ro pa ba ma ti ta' im sh pv' un ∧ r0 = some (.int (nI r))) 0 0) 37 [some (.ref (A 0)), some (.int (nI r)), some (.int (nI c)), some (.int (nI k)), x4, x5, x6, x7, x8, x9] [] (mdH E h A s fa si sr pu va ro pa ba ma ti T im sh pv un) 0 0) : ∀ (g k : Nat), k + g = 19 → r ≤ k → (∀ k1, r ≤ k1 → k1 < k → T (14 * k1 + c) = 0) → ga_G l E mX9_clears (ga_Rm (d + 1) 0 0) (ga_Z E (fun r0 h' => ∃ ta' pv' r, r ≤ 13 ∧ Ech M (tM ta') (ltB r) (rvp pv') ∧ h' = mdH E h A s fa si sr pu va ro pa ba ma ti ta' im sh pv' un ∧ r0 = some (.int (nI r))) 0 0) 11 [some (.ref (A 0)), some (.int (nI r)), some (.int (nI c)), some (.int (nI k)), x4, x5, x6, x7, x8, x9] [] (mdH E h A s fa si sr pu va ro pa ba ma ti T im sh pv un) 0 0 := by
  intro g
  induction g with
  | zero =>
    intro k hk hlo hz
    refine gr_iload_n dX9_clears_11 rfl (gr_bipush (v := nI 19) dX9_clears_12 (by decide) ?_)
    refine gr_icmpgeN 37 dX9_clears_14 (by decide) (by omega) (by omega) (fun _ => ?_) (fun z => absurd z (by omega))
    exact kx k (by omega) hlo (fun z => absurd z (by omega)) hz
  | succ g ih =>
    intro k hk hlo hz
    refine gr_iload_n dX9_clears_11 rfl (gr_bipush (v := nI 19) dX9_clears_12 (by decide) ?_)
    refine gr_icmpgeN 37 dX9_clears_14 (by decide) (by omega) (by omega) (fun z => absurd z (by omega)) (fun _ => ?_)
    refine gr_aload_n dX9_clears_17 rfl ?_
    refine gr_getf dX9_clears_18 cls_X9 17 (by decide) fl_X9_60 (md_0 hA) rfl ?_
    refine gr_bipush (v := nI 14) dX9_clears_21 (by decide) ?_
    refine gr_iload_n dX9_clears_23 rfl ?_
    refine gr_imulN dX9_clears_24 ?_
    refine gr_iload_n dX9_clears_25 rfl ?_
    refine gr_iaddN dX9_clears_26 ?_
    refine gr_ialoadF dX9_clears_27 (md_11 hA) (by omega) (by decide) ?_
    refine gr_ifneN 37 dX9_clears_28 (by decide) (by have := zl (T (14 * k + c)); omega) (fun c_28 => ?_) (fun c_28 => ?_)
    · exact kx k (by omega) hlo (fun _ => fun z => c_28 (by rw [z]; rfl)) (fun k1 a b => hz k1 a b)
    · refine gr_iinc (v := nI (_ + 1)) dX9_clears_31 rfl (nI_1 _) (by decide) rfl ?_
      refine gr_goto 11 dX9_clears_34 (by decide) ?_
      refine ih (k + 1) (by omega) (by omega) (fun k1 a b => ?_)
      by_cases e : k1 = k
      · subst e; exact Fin.ext c_28
      · exact hz k1 a (by omega)

set_option maxHeartbeats 4000000 in
set_option maxRecDepth 100000 in
theorem c_clr_swap (l : Launch) (E : ga_E) (d : Nat) (h : ga_H) (A : Nat → Nat) (hA : ga_inj A 16) (s : Nat → Int32) (fa si sr pu va ro pa ba ma ti ta im sh un : Nat → zp) (pv : Nat → Option Nat) (M : Nat → Nat → zp) (T0 : Nat → zp) (r c k : Nat) (hr : r ≤ k) (hk : k < 19) (x6 x7 x8 x9 : Option Value) (kx : ∀ (T : Nat → zp) (x4 x5 : Option Value), (∀ i, i < 19 → ∀ j1, j1 < 14 → T (14 * i + j1) = T0 (14 * swp k r i + j1)) → ga_G l E mX9_clears (ga_Rm (d + 1) 0 0) (ga_Z E (fun r0 h' => ∃ ta' pv' r, r ≤ 13 ∧ Ech M (tM ta') (ltB r) (rvp pv') ∧ h' = mdH E h A s fa si sr pu va ro pa ba ma ti ta' im sh pv' un ∧ r0 = some (.int (nI r))) 0 0) 118 [some (.ref (A 0)), some (.int (nI r)), some (.int (nI c)), some (.int (nI k)), x4, x5, x6, x7, x8, x9] [] (mdH E h A s fa si sr pu va ro pa ba ma ti T im sh pv un) 0 0) : ∀ (g j : Nat) (T : Nat → zp) (x5 : Option Value), j + g = 14 → (∀ i, i < 19 → ∀ j1, j1 < 14 → T (14 * i + j1) = if j1 < j then T0 (14 * swp k r i + j1) else T0 (14 * i + j1)) → ga_G l E mX9_clears (ga_Rm (d + 1) 0 0) (ga_Z E (fun r0 h' => ∃ ta' pv' r, r ≤ 13 ∧ Ech M (tM ta') (ltB r) (rvp pv') ∧ h' = mdH E h A s fa si sr pu va ro pa ba ma ti ta' im sh pv' un ∧ r0 = some (.int (nI r))) 0 0) 53 [some (.ref (A 0)), some (.int (nI r)), some (.int (nI c)), some (.int (nI k)), some (.int (nI j)), x5, x6, x7, x8, x9] [] (mdH E h A s fa si sr pu va ro pa ba ma ti T im sh pv un) 0 0 := by
  intro g
  induction g with
  | zero =>
    intro j T x5 hj hT
    refine gr_iload dX9_clears_53 rfl (gr_bipush (v := nI 14) dX9_clears_55 (by decide) ?_)
    refine gr_icmpgeN 118 dX9_clears_57 (by decide) (by omega) (by omega) (fun _ => ?_) (fun z => absurd z (by omega))
    exact kx T _ _ (fun i hi j1 hj1 => by rw [hT i hi j1 hj1, if_pos (by omega)])
  | succ g ih =>
    intro j T x5 hj hT
    refine gr_iload dX9_clears_53 rfl (gr_bipush (v := nI 14) dX9_clears_55 (by decide) ?_)
    refine gr_icmpgeN 118 dX9_clears_57 (by decide) (by omega) (by omega) (fun z => absurd z (by omega)) (fun _ => ?_)
    refine gr_aload_n dX9_clears_60 rfl ?_
    refine gr_getf dX9_clears_61 cls_X9 17 (by decide) fl_X9_60 (md_0 hA) rfl ?_
    refine gr_bipush (v := nI 14) dX9_clears_64 (by decide) ?_
    refine gr_iload_n dX9_clears_66 rfl ?_
    refine gr_imulN dX9_clears_67 ?_
    refine gr_iload dX9_clears_68 rfl ?_
    refine gr_iaddN dX9_clears_70 ?_
    refine gr_ialoadF dX9_clears_71 (md_11 hA) (by omega) (by decide) ?_
    refine gr_istore dX9_clears_72 (by decide) rfl ?_
    refine gr_aload_n dX9_clears_74 rfl ?_
    refine gr_getf dX9_clears_75 cls_X9 17 (by decide) fl_X9_60 (md_0 hA) rfl ?_
    refine gr_bipush (v := nI 14) dX9_clears_78 (by decide) ?_
    refine gr_iload_n dX9_clears_80 rfl ?_
    refine gr_imulN dX9_clears_81 ?_
    refine gr_iload dX9_clears_82 rfl ?_
    refine gr_iaddN dX9_clears_84 ?_
    refine gr_aload_n dX9_clears_85 rfl ?_
    refine gr_getf dX9_clears_86 cls_X9 17 (by decide) fl_X9_60 (md_0 hA) rfl ?_
    refine gr_bipush (v := nI 14) dX9_clears_89 (by decide) ?_
    refine gr_iload_n dX9_clears_91 rfl ?_
    refine gr_imulN dX9_clears_92 ?_
    refine gr_iload dX9_clears_93 rfl ?_
    refine gr_iaddN dX9_clears_95 ?_
    refine gr_ialoadF dX9_clears_96 (md_11 hA) (by omega) (by decide) ?_
    refine gr_iastoreF dX9_clears_97 (md_11 hA) (by omega) (by decide) ?_
    rw [md_w11 hA]
    refine gr_aload_n dX9_clears_98 rfl ?_
    refine gr_getf dX9_clears_99 cls_X9 17 (by decide) fl_X9_60 (md_0 hA) rfl ?_
    refine gr_bipush (v := nI 14) dX9_clears_102 (by decide) ?_
    refine gr_iload_n dX9_clears_104 rfl ?_
    refine gr_imulN dX9_clears_105 ?_
    refine gr_iload dX9_clears_106 rfl ?_
    refine gr_iaddN dX9_clears_108 ?_
    refine gr_iload dX9_clears_109 rfl ?_
    refine gr_iastoreF dX9_clears_111 (md_11 hA) (by omega) (by decide) ?_
    rw [md_w11 hA]
    refine gr_iinc (v := nI (_ + 1)) dX9_clears_112 rfl (nI_1 _) (by decide) rfl ?_
    refine gr_goto 53 dX9_clears_115 (by decide) ?_
    refine ih (j + 1) _ _ (by omega) (fun i hi j1 hj1 => ?_)
    have ek := hT k (by omega) j (by omega)
    have er := hT r (by omega) j (by omega)
    rw [if_neg (by omega)] at ek er
    by_cases e : j1 = j
    · subst e
      rw [if_pos (by omega)]
      by_cases e1 : i = r
      · subst e1
        rw [va_us, ek]
        have : swp k i i = k := by unfold swp; by_cases e : i = k <;> simp [e]
        rw [this]
      · rw [va_un (by omega)]
        by_cases e2 : i = k
        · subst e2
          rw [va_us, er]
          have : swp i r i = r := by unfold swp; rw [if_pos rfl]
          rw [this]
        · rw [va_un (by omega), swp_o e2 e1, hT i hi j1 hj1, if_neg (by omega)]
    · rw [va_un (by omega), va_un (by omega), hT i hi j1 hj1]
      by_cases c1 : j1 < j
      · rw [if_pos c1, if_pos (by omega)]
      · rw [if_neg c1, if_neg (by omega)]

set_option maxHeartbeats 4000000 in
set_option maxRecDepth 100000 in
theorem c_clr_scale (l : Launch) (E : ga_E) (d : Nat) (h : ga_H) (A : Nat → Nat) (hA : ga_inj A 16) (s : Nat → Int32) (fa si sr pu va ro pa ba ma ti ta im sh un : Nat → zp) (pv : Nat → Option Nat) (M : Nat → Nat → zp) (T1 : Nat → zp) (r c k : Nat) (hr : r < 19) (z : zp) (x7 x8 x9 : Option Value) (kx : ∀ (T : Nat → zp) (x4 x6 : Option Value), (∀ i, i < 19 → ∀ j1, j1 < 14 → T (14 * i + j1) = if i = r then T1 (14 * i + j1) * z else T1 (14 * i + j1)) → ga_G l E mX9_clears (ga_Rm (d + 1) 0 0) (ga_Z E (fun r0 h' => ∃ ta' pv' r, r ≤ 13 ∧ Ech M (tM ta') (ltB r) (rvp pv') ∧ h' = mdH E h A s fa si sr pu va ro pa ba ma ti ta' im sh pv' un ∧ r0 = some (.int (nI r))) 0 0) 184 [some (.ref (A 0)), some (.int (nI r)), some (.int (nI c)), some (.int (nI k)), x4, none, x6, x7, x8, x9] [] (mdH E h A s fa si sr pu va ro pa ba ma ti T im sh pv un) 0 0) : ∀ (g j : Nat) (T : Nat → zp), j + g = 14 → (∀ i, i < 19 → ∀ j1, j1 < 14 → T (14 * i + j1) = if i = r ∧ j1 < j then T1 (14 * i + j1) * z else T1 (14 * i + j1)) → ga_G l E mX9_clears (ga_Rm (d + 1) 0 0) (ga_Z E (fun r0 h' => ∃ ta' pv' r, r ≤ 13 ∧ Ech M (tM ta') (ltB r) (rvp pv') ∧ h' = mdH E h A s fa si sr pu va ro pa ba ma ti ta' im sh pv' un ∧ r0 = some (.int (nI r))) 0 0) 138 [some (.ref (A 0)), some (.int (nI r)), some (.int (nI c)), some (.int (nI k)), some (.long (lN z.val)), none, some (.int (nI j)), x7, x8, x9] [] (mdH E h A s fa si sr pu va ro pa ba ma ti T im sh pv un) 0 0 := by
  intro g
  induction g with
  | zero =>
    intro j T hj hT
    refine gr_iload dX9_clears_138 rfl (gr_bipush (v := nI 14) dX9_clears_140 (by decide) ?_)
    refine gr_icmpgeN 184 dX9_clears_142 (by decide) (by omega) (by omega) (fun _ => ?_) (fun z => absurd z (by omega))
    refine kx T _ _ (fun i hi j1 hj1 => ?_)
    rw [hT i hi j1 hj1]
    by_cases c1 : i = r
    · rw [if_pos ⟨c1, by omega⟩, if_pos c1]
    · rw [if_neg (fun w => c1 w.1), if_neg c1]
  | succ g ih =>
    intro j T hj hT
    refine gr_iload dX9_clears_138 rfl (gr_bipush (v := nI 14) dX9_clears_140 (by decide) ?_)
    refine gr_icmpgeN 184 dX9_clears_142 (by decide) (by omega) (by omega) (fun z => absurd z (by omega)) (fun _ => ?_)
    refine gr_aload_n dX9_clears_145 rfl ?_
    refine gr_getf dX9_clears_146 cls_X9 17 (by decide) fl_X9_60 (md_0 hA) rfl ?_
    refine gr_bipush (v := nI 14) dX9_clears_149 (by decide) ?_
    refine gr_iload_n dX9_clears_151 rfl ?_
    refine gr_imulN dX9_clears_152 ?_
    refine gr_iload dX9_clears_153 rfl ?_
    refine gr_iaddN dX9_clears_155 ?_
    refine gr_aload_n dX9_clears_156 rfl ?_
    refine gr_getf dX9_clears_157 cls_X9 17 (by decide) fl_X9_60 (md_0 hA) rfl ?_
    refine gr_bipush (v := nI 14) dX9_clears_160 (by decide) ?_
    refine gr_iload_n dX9_clears_162 rfl ?_
    refine gr_imulN dX9_clears_163 ?_
    refine gr_iload dX9_clears_164 rfl ?_
    refine gr_iaddN dX9_clears_166 ?_
    refine gr_ialoadF dX9_clears_167 (md_11 hA) (by omega) (by decide) ?_
    refine gr_i2lN dX9_clears_168 (by have := zl (T (14 * r + j)); omega) ?_
    refine gr_lload dX9_clears_169 rfl ?_
    refine gr_lmulN dX9_clears_171 ?_
    refine gr_remL (x := T (14 * r + j) * z) dX9_clears_172 kl_X9_78 dX9_clears_175 (by have := zmul_ll (T (14 * r + j)) z; omega) (zo_mm _ _) ?_
    refine gr_l2iN dX9_clears_176 ?_
    refine gr_iastoreF dX9_clears_177 (md_11 hA) (by omega) (by decide) ?_
    rw [md_w11 hA]
    refine gr_iinc (v := nI (_ + 1)) dX9_clears_178 rfl (nI_1 _) (by decide) rfl ?_
    refine gr_goto 138 dX9_clears_181 (by decide) ?_
    refine ih (j + 1) _ (by omega) (fun i hi j1 hj1 => ?_)
    have er := hT r (by omega) j (by omega)
    rw [if_neg (by omega)] at er
    by_cases e : i = r ∧ j1 = j
    · obtain ⟨rfl, rfl⟩ := e
      rw [va_us, er, if_pos ⟨rfl, by omega⟩]
    · rw [va_un (by omega), hT i hi j1 hj1]
      by_cases c1 : i = r ∧ j1 < j
      · rw [if_pos c1, if_pos ⟨c1.1, by omega⟩]
      · rw [if_neg c1, if_neg (by omega)]

theorem lN_nge {a b : Nat} (h : a < b) (hb : b < 2 ^ 31) : ¬ (lN b ≤ lN a) := fun z => by
  rw [Int64.le_iff_toInt_le] at z
  have e : ∀ n : Nat, n < 2 ^ 31 → (lN n).toInt = (n : Int) := fun n hn => by
    show (Int64.ofNat n).toInt = _
    rw [← Int64.ofInt_eq_ofNat]
    exact Int64.toInt_ofInt_of_le (by omega) (by omega)
  rw [e a (by omega), e b hb] at z
  omega

set_option maxHeartbeats 4000000 in
set_option maxRecDepth 100000 in
theorem c_clr_ci (l : Launch) (E : ga_E) (d : Nat) (h : ga_H) (A : Nat → Nat) (hA : ga_inj A 16) (s : Nat → Int32) (fa si sr pu va ro pa ba ma ti ta im sh un : Nat → zp) (pv : Nat → Option Nat) (M : Nat → Nat → zp) (T2 : Nat → zp) (r c k : Nat) (hr : r < 19) (hc : c < 13) (n : Nat) (hn : n < 19) (hnr : n ≠ r) (f : Nat) (hf : f < 32003) (hf0 : 0 < f) (hfz : zo f = -(T2 (14 * n + c))) (y4 : Option Value) (kx : ∀ (T : Nat → zp) (x4 x7 x9 : Option Value), (∀ i, i < 19 → ∀ j1, j1 < 14 → T (14 * i + j1) = if i ≠ r ∧ i < n + 1 then T2 (14 * i + j1) - T2 (14 * i + c) * T2 (14 * r + j1) else T2 (14 * i + j1)) → ga_G l E mX9_clears (ga_Rm (d + 1) 0 0) (ga_Z E (fun r0 h' => ∃ ta' pv' r, r ≤ 13 ∧ Ech M (tM ta') (ltB r) (rvp pv') ∧ h' = mdH E h A s fa si sr pu va ro pa ba ma ti ta' im sh pv' un ∧ r0 = some (.int (nI r))) 0 0) 304 [some (.ref (A 0)), some (.int (nI r)), some (.int (nI c)), some (.int (nI k)), x4, none, some (.int (nI n)), x7, none, x9] [] (mdH E h A s fa si sr pu va ro pa ba ma ti T im sh pv un) 0 0) : ∀ (g j : Nat) (T : Nat → zp), j + g = 14 → (∀ i, i < 19 → ∀ j1, j1 < 14 → T (14 * i + j1) = if i ≠ r ∧ (i < n ∨ i = n ∧ j1 < j) then T2 (14 * i + j1) - T2 (14 * i + c) * T2 (14 * r + j1) else T2 (14 * i + j1)) → ga_G l E mX9_clears (ga_Rm (d + 1) 0 0) (ga_Z E (fun r0 h' => ∃ ta' pv' r, r ≤ 13 ∧ Ech M (tM ta') (ltB r) (rvp pv') ∧ h' = mdH E h A s fa si sr pu va ro pa ba ma ti ta' im sh pv' un ∧ r0 = some (.int (nI r))) 0 0) 226 [some (.ref (A 0)), some (.int (nI r)), some (.int (nI c)), some (.int (nI k)), y4, none, some (.int (nI n)), some (.long (lN f)), none, some (.int (nI j))] [] (mdH E h A s fa si sr pu va ro pa ba ma ti T im sh pv un) 0 0 := by
  intro g
  induction g with
  | zero =>
    intro j T hj hT
    refine gr_iload dX9_clears_226 rfl (gr_bipush (v := nI 14) dX9_clears_228 (by decide) ?_)
    refine gr_icmpgeN 304 dX9_clears_230 (by decide) (by omega) (by omega) (fun _ => ?_) (fun z => absurd z (by omega))
    refine kx T _ _ _ (fun i hi j1 hj1 => ?_)
    rw [hT i hi j1 hj1]
    by_cases c1 : i ≠ r ∧ i < n + 1
    · rw [if_pos (by omega), if_pos c1]
    · rw [if_neg (by omega), if_neg c1]
  | succ g ih =>
    intro j T hj hT
    refine gr_iload dX9_clears_226 rfl (gr_bipush (v := nI 14) dX9_clears_228 (by decide) ?_)
    refine gr_icmpgeN 304 dX9_clears_230 (by decide) (by omega) (by omega) (fun z => absurd z (by omega)) (fun _ => ?_)
    have en := hT n hn j (by omega)
    have er := hT r hr j (by omega)
    rw [if_neg (by omega)] at en er
    refine gr_lload dX9_clears_233 rfl ?_
    refine gr_ldc2 dX9_clears_235 kl_X9_78 ?_
    refine gr_lcmp dX9_clears_238 ?_
    refine gr_ifge 304 dX9_clears_239 (by decide) (fun w => absurd ((lg_cmp_ge _ _).mp w) (lN_nge hf (by decide))) (fun _ => ?_)
    refine gr_lload dX9_clears_242 rfl ?_
    refine gr_lconst (v := lN 0) dX9_clears_244 rfl ?_
    refine gr_lcmp dX9_clears_245 ?_
    refine gr_ifle 304 dX9_clears_246 (by decide) (fun w => absurd ((lg_cmp_le _ _).mp w) (lN_nge (a := 0) hf0 (by omega))) (fun _ => ?_)
    refine gr_aload_n dX9_clears_249 rfl ?_
    refine gr_getf dX9_clears_250 cls_X9 17 (by decide) fl_X9_60 (md_0 hA) rfl ?_
    refine gr_bipush (v := nI 14) dX9_clears_253 (by decide) ?_
    refine gr_iload dX9_clears_255 rfl ?_
    refine gr_imulN dX9_clears_257 ?_
    refine gr_iload dX9_clears_258 rfl ?_
    refine gr_iaddN dX9_clears_260 ?_
    refine gr_aload_n dX9_clears_261 rfl ?_
    refine gr_getf dX9_clears_262 cls_X9 17 (by decide) fl_X9_60 (md_0 hA) rfl ?_
    refine gr_bipush (v := nI 14) dX9_clears_265 (by decide) ?_
    refine gr_iload dX9_clears_267 rfl ?_
    refine gr_imulN dX9_clears_269 ?_
    refine gr_iload dX9_clears_270 rfl ?_
    refine gr_iaddN dX9_clears_272 ?_
    refine gr_ialoadF dX9_clears_273 (md_11 hA) (by omega) (by decide) ?_
    refine gr_i2lN dX9_clears_274 (by have := zl (T (14 * n + j)); omega) ?_
    refine gr_lload dX9_clears_275 rfl ?_
    refine gr_aload_n dX9_clears_277 rfl ?_
    refine gr_getf dX9_clears_278 cls_X9 17 (by decide) fl_X9_60 (md_0 hA) rfl ?_
    refine gr_bipush (v := nI 14) dX9_clears_281 (by decide) ?_
    refine gr_iload_n dX9_clears_283 rfl ?_
    refine gr_imulN dX9_clears_284 ?_
    refine gr_iload dX9_clears_285 rfl ?_
    refine gr_iaddN dX9_clears_287 ?_
    refine gr_ialoadF dX9_clears_288 (md_11 hA) (by omega) (by decide) ?_
    refine gr_i2lN dX9_clears_289 (by have := zl (T (14 * r + j)); omega) ?_
    refine gr_lmulN dX9_clears_290 ?_
    refine gr_laddN dX9_clears_291 ?_
    refine gr_remL (x := T2 (14 * n + j) - T2 (14 * n + c) * T2 (14 * r + j)) dX9_clears_292 kl_X9_78 dX9_clears_295 (by have := zl (T (14 * n + j)); have h8 : f * (T (14 * r + j)).val ≤ 32003 * 32003 := Nat.mul_le_mul (by omega) (Nat.le_of_lt (zl _)); omega) (by rw [zo_add, zo_mul, zo_self, zo_self, hfz, en, er]; grind) ?_
    refine gr_l2iN dX9_clears_296 ?_
    refine gr_iastoreF dX9_clears_297 (md_11 hA) (by omega) (by decide) ?_
    rw [md_w11 hA]
    refine gr_iinc (v := nI (_ + 1)) dX9_clears_298 rfl (nI_1 _) (by decide) rfl ?_
    refine gr_goto 226 dX9_clears_301 (by decide) ?_
    refine ih (j + 1) _ (by omega) (fun i hi j1 hj1 => ?_)
    by_cases e : i = n ∧ j1 = j
    · obtain ⟨rfl, rfl⟩ := e
      rw [va_us, if_pos ⟨hnr, Or.inr ⟨rfl, by omega⟩⟩]
    · rw [va_un (by omega), hT i hi j1 hj1]
      by_cases c1 : i ≠ r ∧ (i < n ∨ i = n ∧ j1 < j)
      · rw [if_pos c1, if_pos (by omega)]
      · rw [if_neg c1, if_neg (by omega)]

set_option maxHeartbeats 4000000 in
set_option maxRecDepth 100000 in
theorem c_clr_co (l : Launch) (E : ga_E) (d : Nat) (h : ga_H) (A : Nat → Nat) (hA : ga_inj A 16) (s : Nat → Int32) (fa si sr pu va ro pa ba ma ti ta im sh un : Nat → zp) (pv : Nat → Option Nat) (M : Nat → Nat → zp) (T2 : Nat → zp) (r c k : Nat) (hr : r < 19) (hc : c < 13) (kx : ∀ (T : Nat → zp) (x4 x6 x7 x8 x9 : Option Value), (∀ i, i < 19 → ∀ j1, j1 < 14 → T (14 * i + j1) = if i = r then T2 (14 * i + j1) else T2 (14 * i + j1) - T2 (14 * i + c) * T2 (14 * r + j1)) → ga_G l E mX9_clears (ga_Rm (d + 1) 0 0) (ga_Z E (fun r0 h' => ∃ ta' pv' r, r ≤ 13 ∧ Ech M (tM ta') (ltB r) (rvp pv') ∧ h' = mdH E h A s fa si sr pu va ro pa ba ma ti ta' im sh pv' un ∧ r0 = some (.int (nI r))) 0 0) 310 [some (.ref (A 0)), some (.int (nI r)), some (.int (nI c)), some (.int (nI k)), x4, none, x6, x7, x8, x9] [] (mdH E h A s fa si sr pu va ro pa ba ma ti T im sh pv un) 0 0) : ∀ (g n : Nat) (T : Nat → zp) (x4 x7 x8 x9 : Option Value), n + g = 19 → (∀ i, i < 19 → ∀ j1, j1 < 14 → T (14 * i + j1) = if i ≠ r ∧ i < n then T2 (14 * i + j1) - T2 (14 * i + c) * T2 (14 * r + j1) else T2 (14 * i + j1)) → ga_G l E mX9_clears (ga_Rm (d + 1) 0 0) (ga_Z E (fun r0 h' => ∃ ta' pv' r, r ≤ 13 ∧ Ech M (tM ta') (ltB r) (rvp pv') ∧ h' = mdH E h A s fa si sr pu va ro pa ba ma ti ta' im sh pv' un ∧ r0 = some (.int (nI r))) 0 0) 187 [some (.ref (A 0)), some (.int (nI r)), some (.int (nI c)), some (.int (nI k)), x4, none, some (.int (nI n)), x7, x8, x9] [] (mdH E h A s fa si sr pu va ro pa ba ma ti T im sh pv un) 0 0 := by
  intro g
  induction g with
  | zero =>
    intro n T x4 x7 x8 x9 hg hT
    refine gr_iload dX9_clears_187 rfl (gr_bipush (v := nI 19) dX9_clears_189 (by decide) ?_)
    refine gr_icmpgeN 310 dX9_clears_191 (by decide) (by omega) (by omega) (fun _ => ?_) (fun z => absurd z (by omega))
    refine kx T _ _ _ _ _ (fun i hi j1 hj1 => ?_)
    rw [hT i hi j1 hj1]
    by_cases c1 : i = r
    · rw [if_neg (by omega), if_pos c1]
    · rw [if_pos (by omega), if_neg c1]
  | succ g ih =>
    intro n T x4 x7 x8 x9 hg hT
    refine gr_iload dX9_clears_187 rfl (gr_bipush (v := nI 19) dX9_clears_189 (by decide) ?_)
    refine gr_icmpgeN 310 dX9_clears_191 (by decide) (by omega) (by omega) (fun z => absurd z (by omega)) (fun _ => ?_)
    refine gr_iload dX9_clears_194 rfl ?_
    refine gr_iload_n dX9_clears_196 rfl ?_
    refine gr_icmpneN 204 dX9_clears_197 (by decide) (by omega) (by omega) (fun c_197 => ?_) (fun c_197 => ?_)
    · refine gr_sipush (v := nI 32003) dX9_clears_204 (by decide) ?_
      refine gr_aload_n dX9_clears_207 rfl ?_
      refine gr_getf dX9_clears_208 cls_X9 17 (by decide) fl_X9_60 (md_0 hA) rfl ?_
      refine gr_bipush (v := nI 14) dX9_clears_211 (by decide) ?_
      refine gr_iload dX9_clears_213 rfl ?_
      refine gr_imulN dX9_clears_215 ?_
      refine gr_iload_n dX9_clears_216 rfl ?_
      refine gr_iaddN dX9_clears_217 ?_
      refine gr_ialoadF dX9_clears_218 (md_11 hA) (by omega) (by decide) ?_
      refine gr_isubN dX9_clears_219 (by have := zl (T (14 * n + c)); omega) ?_
      refine gr_i2lN dX9_clears_220 (by omega) ?_
      refine gr_lstore dX9_clears_221 (by decide) rfl ?_
      refine gr_iconst (v := nI 0) dX9_clears_223 rfl ?_
      refine gr_istore dX9_clears_224 (by decide) rfl ?_
      have en := hT n (by omega) c (by omega)
      rw [if_neg (by omega)] at en
      by_cases hz : T (14 * n + c) = 0
      · refine gr_iload dX9_clears_226 rfl (gr_bipush (v := nI 14) dX9_clears_228 (by decide) ?_)
        refine gr_icmpgeN 304 dX9_clears_230 (by decide) (by omega) (by omega) (fun z => absurd z (by omega)) (fun _ => ?_)
        refine gr_lload dX9_clears_233 rfl (gr_ldc2 dX9_clears_235 kl_X9_78 (gr_lcmp dX9_clears_238 ?_))
        refine gr_ifge 304 dX9_clears_239 (by decide) (fun _ => ?_) (fun w => absurd ((lg_cmp_ge _ _).mpr (by rw [hz]; exact Int64.le_refl _)) w)
        refine gr_iinc (v := nI (_ + 1)) dX9_clears_304 rfl (nI_1 _) (by decide) rfl ?_
        refine gr_goto 187 dX9_clears_307 (by decide) ?_
        refine ih (n + 1) T _ _ _ _ (by omega) (fun i hi j1 hj1 => ?_)
        rw [hT i hi j1 hj1]
        by_cases e : i = n
        · subst e
          rw [if_neg (by omega), if_pos ⟨c_197, by omega⟩, ← en, hz]; grind
        · by_cases c1 : i ≠ r ∧ i < n
          · rw [if_pos c1, if_pos (by omega)]
          · rw [if_neg c1, if_neg (by omega)]
      · have hv : (T (14 * n + c)).val ≠ 0 := fun z => hz (Fin.ext z)
        have hl := zl (T (14 * n + c))
        refine c_clr_ci l E d h A hA s fa si sr pu va ro pa ba ma ti ta im sh un pv M T2 r c k hr hc n (by omega) c_197 (32003 - (T (14 * n + c)).val) (by omega) (by omega) (by rw [← zneg hv, zo_self, en]) _ (fun T3 y4 y7 y9 hT3 => ?_) 14 0 T (by omega) (fun i hi j1 hj1 => ?_)
        · refine gr_iinc (v := nI (_ + 1)) dX9_clears_304 rfl (nI_1 _) (by decide) rfl ?_
          refine gr_goto 187 dX9_clears_307 (by decide) ?_
          exact ih (n + 1) T3 _ _ _ _ (by omega) hT3
        · rw [hT i hi j1 hj1]
          by_cases c1 : i ≠ r ∧ i < n
          · rw [if_pos c1, if_pos (by omega)]
          · rw [if_neg c1, if_neg (by omega)]
    · subst c_197
      refine gr_lconst (v := lN 0) dX9_clears_200 rfl ?_
      refine gr_goto 221 dX9_clears_201 (by decide) ?_
      refine gr_lstore dX9_clears_221 (by decide) rfl ?_
      refine gr_iconst (v := nI 0) dX9_clears_223 rfl ?_
      refine gr_istore dX9_clears_224 (by decide) rfl ?_
      refine gr_iload dX9_clears_226 rfl (gr_bipush (v := nI 14) dX9_clears_228 (by decide) ?_)
      refine gr_icmpgeN 304 dX9_clears_230 (by decide) (by omega) (by omega) (fun z => absurd z (by omega)) (fun _ => ?_)
      refine gr_lload dX9_clears_233 rfl (gr_ldc2 dX9_clears_235 kl_X9_78 (gr_lcmp dX9_clears_238 ?_))
      refine gr_ifge 304 dX9_clears_239 (by decide) (fun w => absurd ((lg_cmp_ge _ _).mp w) (by decide)) (fun _ => ?_)
      refine gr_lload dX9_clears_242 rfl (gr_lconst (v := lN 0) dX9_clears_244 rfl (gr_lcmp dX9_clears_245 ?_))
      refine gr_ifle 304 dX9_clears_246 (by decide) (fun _ => ?_) (fun w => absurd ((lg_cmp_le _ _).mpr (Int64.le_refl _)) w)
      refine gr_iinc (v := nI (_ + 1)) dX9_clears_304 rfl (nI_1 _) (by decide) rfl ?_
      refine gr_goto 187 dX9_clears_307 (by decide) ?_
      refine ih (n + 1) T _ _ _ _ (by omega) (fun i hi j1 hj1 => ?_)
      rw [hT i hi j1 hj1]
      by_cases c1 : i ≠ n ∧ i < n
      · rw [if_pos c1, if_pos (by omega)]
      · rw [if_neg c1, if_neg (by omega)]

set_option maxHeartbeats 4000000 in
set_option maxRecDepth 100000 in
theorem c_clr_outer (l : Launch) (E : ga_E) (d : Nat) (h : ga_H) (A : Nat → Nat) (hA : ga_inj A 16) (s : Nat → Int32) (fa si sr pu va ro pa ba ma ti ta im sh un : Nat → zp) (pv : Nat → Option Nat) (M : Nat → Nat → zp) : ∀ (kk : Nat), kk ≤ 13 → ∀ (T : Nat → zp) (pv0 : Nat → Option Nat) (r : Nat) (x3 x4 x5 x6 x7 x8 x9 : Option Value), r + kk ≤ 13 → EchI M (13 - kk) (tM T) (ltB r) (rvp pv0) → ga_G l E mX9_clears (ga_Rm (d + 1) 0 0) (ga_Z E (fun r0 h' => ∃ ta' pv' r, r ≤ 13 ∧ Ech M (tM ta') (ltB r) (rvp pv') ∧ h' = mdH E h A s fa si sr pu va ro pa ba ma ti ta' im sh pv' un ∧ r0 = some (.int (nI r))) 0 0) 5 [some (.ref (A 0)), some (.int (nI r)), some (.int (nI kk - nI 1)), x3, x4, x5, x6, x7, x8, x9] [] (mdH E h A s fa si sr pu va ro pa ba ma ti T im sh pv0 un) 0 0 := by
  intro kk
  induction kk with
  | zero =>
    intro hk T pv0 r x3 x4 x5 x6 x7 x8 x9 hr hE
    refine gr_iload_n dX9_clears_5 rfl (gr_iflt 326 dX9_clears_6 (by decide) (fun _ => ?_) (fun z => absurd ((dn_neg (by decide)).mpr rfl) z))
    refine gr_iload_n dX9_clears_326 rfl ?_
    exact gr_ireturn dX9_clears_327 rfl (Nat.le_refl _) (Nat.le_refl _) ⟨T, pv0, r, by omega, hE, rfl, rfl⟩
  | succ c ih =>
    intro hk T pv0 r x3 x4 x5 x6 x7 x8 x9 hr hE
    rw [dn_top]
    rw [show 13 - (c + 1) = 12 - c by omega] at hE
    refine gr_iload_n dX9_clears_5 rfl (gr_ifltN dX9_clears_6 326 (by decide) (by omega) ?_)
    refine gr_iload_n dX9_clears_9 rfl (gr_istore_n dX9_clears_10 (by decide) rfl ?_)
    refine c_clr_find l E d h A hA s fa si sr pu va ro pa ba ma ti T im sh un pv0 M T r c (by omega) _ _ _ _ _ _ (fun k hk19 hlo hne hz => ?_) (19 - r) r (by omega) (by omega) (fun k1 a b => absurd b (by omega))
    refine gr_aload_n dX9_clears_37 rfl ?_
    refine gr_getf dX9_clears_38 cls_X9 20 (by decide) fl_X9_69 (md_0 hA) rfl ?_
    refine gr_iload_n dX9_clears_41 rfl ?_
    refine gr_iconst (v := -1) dX9_clears_42 (by decide) ?_
    refine gr_iastore dX9_clears_43 (md_14 hA) (by omega) (by decide) ?_
    rw [show (-1 : Int32) = optI none from rfl, upd_o, md_w14 hA]
    refine gr_iload_n dX9_clears_44 rfl ?_
    refine gr_bipush (v := nI 19) dX9_clears_45 (by decide) ?_
    refine gr_icmpgeN 320 dX9_clears_47 (by decide) (by omega) (by omega) (fun c_47 => ?_) (fun c_47 => ?_)
    · refine gr_iinc (v := nI c - nI 1) dX9_clears_320 rfl (dn_step c) (by decide) rfl ?_
      refine gr_goto 5 dX9_clears_323 (by decide) ?_
      refine ih (by omega) T _ r _ _ _ _ _ _ _ (by omega) ?_
      rw [show 13 - c = 12 - c + 1 by omega]
      exact ech_none (by omega) hE (fun k1 a b => hz k1 a (by omega))
    · refine gr_iconst (v := nI 0) dX9_clears_50 rfl ?_
      refine gr_istore dX9_clears_51 (by decide) rfl ?_
      refine c_clr_swap l E d h A hA s fa si sr pu va ro pa ba ma ti T im sh un (va_up pv0 c none) M T r c k hlo c_47 _ _ _ _ (fun T1 y4 y5 hT1 => ?_) 14 0 T _ (by omega) (fun i hi j1 hj1 => by rw [if_neg (by omega)])
      refine gr_aload_n dX9_clears_118 rfl ?_
      refine gr_getf dX9_clears_119 cls_X9 17 (by decide) fl_X9_60 (md_0 hA) rfl ?_
      refine gr_bipush (v := nI 14) dX9_clears_122 (by decide) ?_
      refine gr_iload_n dX9_clears_124 rfl ?_
      refine gr_imulN dX9_clears_125 ?_
      refine gr_iload_n dX9_clears_126 rfl ?_
      refine gr_iaddN dX9_clears_127 ?_
      refine gr_ialoadF dX9_clears_128 (md_11 hA) (by omega) (by decide) ?_
      refine gr_callS dX9_clears_129 (c_minv l E d _ (T1 (14 * r + c))) ysX9_inverse ⟨ml_X9_91, sm_X9_inverse⟩ rfl rfl (Nat.le_of_ble_eq_true rfl) ⟨(Nat.le_refl _), (Nat.le_refl _)⟩ ⟨(Nat.le_refl _), (Nat.le_refl _)⟩ (fun r0 h1 hp9 => ?_)
      obtain ⟨e1, rfl⟩ := hp9
      subst h1
      refine gr_i2lN dX9_clears_132 (by have := zl (zinv (T1 (14 * r + c))); omega) ?_
      refine gr_lstore dX9_clears_133 (by decide) rfl ?_
      refine gr_iconst (v := nI 0) dX9_clears_135 rfl ?_
      refine gr_istore dX9_clears_136 (by decide) rfl ?_
      refine c_clr_scale l E d h A hA s fa si sr pu va ro pa ba ma ti T im sh un (va_up pv0 c none) M T1 r c k (by omega) (zinv (T1 (14 * r + c))) _ _ _ (fun T2 z4 z6 hT2 => ?_) 14 0 T1 (by omega) (fun i hi j1 hj1 => by rw [if_neg (by omega)])
      refine gr_iconst (v := nI 0) dX9_clears_184 rfl ?_
      refine gr_istore dX9_clears_185 (by decide) rfl ?_
      refine c_clr_co l E d h A hA s fa si sr pu va ro pa ba ma ti T im sh un (va_up pv0 c none) M T2 r c k (by omega) (by omega) (fun T3 w4 w6 w7 w8 w9 hT3 => ?_) 19 0 T2 _ _ _ _ (by omega) (fun i hi j1 hj1 => by rw [if_neg (by omega)])
      refine gr_aload_n dX9_clears_310 rfl ?_
      refine gr_getf dX9_clears_311 cls_X9 20 (by decide) fl_X9_69 (md_0 hA) rfl ?_
      refine gr_iload_n dX9_clears_314 rfl ?_
      refine gr_iload_n dX9_clears_315 rfl ?_
      refine gr_iastore dX9_clears_316 (md_14 hA) (by omega) (by decide) ?_
      rw [show nI r = optI (some r) from rfl, upd_o, md_w14 hA]
      refine gr_iinc (v := nI (_ + 1)) dX9_clears_317 rfl (nI_1 _) (by decide) rfl ?_
      refine gr_iinc (v := nI c - nI 1) dX9_clears_320 rfl (dn_step c) (by decide) rfl ?_
      refine gr_goto 5 dX9_clears_323 (by decide) ?_
      refine ih (by omega) T3 _ (r + 1) _ _ _ _ _ _ _ (by omega) ?_
      rw [va_uu, show 13 - c = 12 - c + 1 by omega]
      exact ech_some (by omega) hlo c_47 hE (hne c_47) hT1 hT2 hT3

set_option maxHeartbeats 4000000 in
set_option maxRecDepth 100000 in
theorem c_clears (l : Launch) (E : ga_E) (d : Nat) (h : ga_H) (A : Nat → Nat) (hA : ga_inj A 16) (s : Nat → Int32) (fa si sr pu va ro pa ba ma ti ta im sh un : Nat → zp) (pv : Nat → Option Nat) (M : Nat → Nat → zp) (hM : ∀ i, i < 19 → ∀ j, j < 14 → tM ta i j = M i j) : ga_Ok l E (d + 1) mX9_clears [.ref (A 0)] (mdH E h A s fa si sr pu va ro pa ba ma ti ta im sh pv un) 0 0 (fun r0 h' => ∃ ta' pv' r, r ≤ 13 ∧ Ech M (tM ta') (ltB r) (rvp pv') ∧ h' = mdH E h A s fa si sr pu va ro pa ba ma ti ta' im sh pv' un ∧ r0 = some (.int (nI r))) := by
  refine ga_Ok.of 9 _ (by decide) rfl (Nat.le_of_ble_eq_true rfl) rfl ?_
  refine gr_iconst (v := nI 0) dX9_clears_0 rfl ?_
  refine gr_istore_n dX9_clears_1 (by decide) rfl ?_
  refine gr_bipush (v := nI 12) dX9_clears_2 (by decide) ?_
  refine gr_istore_n dX9_clears_4 (by decide) rfl ?_
  exact c_clr_outer l E d h A hA s fa si sr pu va ro pa ba ma ti ta im sh un pv M 13 (by omega) ta pv 0 _ _ _ _ _ _ _ (by omega) (EchI_0 hM (fun j hj => decide_eq_false (by omega)))
