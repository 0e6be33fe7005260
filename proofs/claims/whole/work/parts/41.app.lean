/-! The reference: shift, apply, fill -/
def shS (q : Nat → zp) (c : zp) : Nat → (Nat → zp)
  | 0 => fun _ => 0
  | m + 1 => va_up (pmI (shS q c m) 13 c 0) 0 (c * shS q c m 0 + q (12 - m))
def apT (q : Nat → zp) (z : zp) (fa : Nat → zp) (i a b n : Nat) : zp := if a ≤ n ∧ n < a + b then fa (7 * i + a) * zpow z i * shS q (zo i) 13 (n - a) else 0
def apI (q : Nat → zp) (z : zp) (fa : Nat → zp) (i a b n : Nat) : zp := zs i (fun i' => zs 7 (fun a' => apT q z fa i' a' 13 n)) + zs a (fun a' => apT q z fa i a' 13 n) + apT q z fa i a b n
def apE (q : Nat → zp) (z : zp) (fa : Nat → zp) (o n : Nat) : zp := zs (o + 1) (fun i' => zs 7 (fun a' => apT q z fa i' a' 13 n))
theorem apT_0 (q : Nat → zp) (z : zp) (fa : Nat → zp) (i a n : Nat) : apT q z fa i a 0 n = 0 := if_neg (by omega)
theorem apI_a (q : Nat → zp) (z : zp) (fa : Nat → zp) (i a n : Nat) : apI q z fa i a 13 n = apI q z fa i (a + 1) 0 n := by
  unfold apI; rw [apT_0]
  show _ = _ + (zs a _ + _) + 0
  grind
theorem apI_i (q : Nat → zp) (z : zp) (fa : Nat → zp) (i n : Nat) : apI q z fa i 7 0 n = apI q z fa (i + 1) 0 0 n := by
  unfold apI; rw [apT_0, apT_0]
  show zs i _ + zs 7 _ + 0 = zs i _ + zs 7 _ + 0 + 0
  grind
theorem apI_0 (q : Nat → zp) (z : zp) (fa : Nat → zp) (n : Nat) : apI q z fa 0 0 0 n = 0 := by
  unfold apI; rw [apT_0]; rfl
theorem apI_E (q : Nat → zp) (z : zp) (fa : Nat → zp) (o n : Nat) : apI q z fa (o + 1) 0 0 n = apE q z fa o n := by
  unfold apI apE; rw [apT_0]
  show _ + 0 + 0 = _
  grind
theorem apI_b {q : Nat → zp} {z : zp} {fa im : Nat → zp} {i a b : Nat} (h : ∀ n, n < 19 → im n = apI q z fa i a b n) (ha : a < 7) (hb : b < 13) {x : zp} (hx : x = im (a + b) + fa (7 * i + a) * zpow z i * shS q (zo i) 13 b) : ∀ n, n < 19 → va_up im (a + b) x n = apI q z fa i a (b + 1) n := fun n hn => by
  by_cases e : n = a + b
  · subst e
    rw [va_us, hx, h _ hn]
    unfold apI
    have e1 : apT q z fa i a b (a + b) = 0 := if_neg (by omega)
    have e2 : apT q z fa i a (b + 1) (a + b) = fa (7 * i + a) * zpow z i * shS q (zo i) 13 b := by
      unfold apT; rw [if_pos (by omega), show a + b - a = b by omega]
    rw [e1, e2]
    grind
  · rw [va_un e, h n hn]
    unfold apI
    have e1 : apT q z fa i a b n = apT q z fa i a (b + 1) n := by
      unfold apT
      by_cases c : a ≤ n ∧ n < a + b
      · rw [if_pos c, if_pos (by omega)]
      · rw [if_neg c, if_neg (by omega)]
    rw [e1]
theorem zlm {i : Nat} (hi : i ≤ 4) (y : zp) : i * y.val ≤ 4 * 32003 := Nat.mul_le_mul hi (Nat.le_of_lt (zl y))
theorem pmI_upH {v sh : Nat → zp} {c : zp} {r : Nat} (h : ∀ j, j < 13 → sh j = pmI v 13 c (r + 1) j) (hr : r + 1 < 13) {x : zp} (hx : x = v (r + 1) * c + v r) : ∀ j, j < 13 → va_up sh (r + 1) x j = pmI v 13 c r j := fun j hj => by
  rw [← pmI_up hr, ← hx]
  by_cases e : j = r + 1
  · subst e; rw [va_us, va_us]
  · rw [va_un e, va_un e]; exact h j hj
theorem shS_up {q sh : Nat → zp} {c : zp} {m : Nat} (h : ∀ j, j < 13 → sh j = pmI (shS q c m) 13 c 0 j) {x : zp} (hx : x = c * shS q c m 0 + q (12 - m)) : ∀ j, j < 13 → va_up sh 0 x j = shS q c (m + 1) j := fun j hj => by
  show _ = va_up (pmI (shS q c m) 13 c 0) 0 (c * shS q c m 0 + q (12 - m)) j
  rw [← hx]
  by_cases e : j = 0
  · subst e; rw [va_us, va_us]
  · rw [va_un e, va_un e]; exact h j hj
theorem shS_congr {q q' : Nat → zp} {c : zp} (h : ∀ j, j < 13 → q j = q' j) : ∀ m, shS q c m = shS q' c m
  | 0 => rfl
  | m + 1 => by
    show va_up (pmI (shS q c m) 13 c 0) 0 (c * shS q c m 0 + q (12 - m)) = va_up (pmI (shS q' c m) 13 c 0) 0 (c * shS q' c m 0 + q' (12 - m))
    rw [shS_congr h m, h _ (by omega)]
theorem apE_congr {q q' : Nat → zp} (h : ∀ j, j < 13 → q j = q' j) (z : zp) (fa : Nat → zp) (o n : Nat) : apE q z fa o n = apE q' z fa o n := by
  unfold apE apT
  refine zs_congr (fun i hi => zs_congr (fun a ha => ?_))
  rw [shS_congr h]

set_option maxHeartbeats 4000000 in
set_option maxRecDepth 100000 in
theorem c_sh_inner (l : Launch) (E : ga_E) (d : Nat) (h : ga_H) (A : Nat → Nat) (hA : ga_inj A 16) (s : Nat → Int32) (fa si sr pu va ro pa ba ma ti ta im sh un : Nat → zp) (pv : Nat → Option Nat) (b : Nat) (q : Nat → zp) (hb : ∀ sh', mdH E h A s fa si sr pu va ro pa ba ma ti ta im sh' pv un b = some (ga_f E 13 q)) (i : Nat) (hi : i ≤ 4) (v : Nat → zp) (x3 : Int32) (kx : ∀ (w : Nat → zp) (x4 : Option Value), (∀ j, j < 13 → w j = pmI v 13 (zo i) 0 j) → ga_G l E mX9_shift (ga_Rm d 0 0) (ga_Z E (fun r0 h' => ∃ sh', (∀ j, j < 13 → sh' j = shS q (zo i) 13 j) ∧ h' = mdH E h A s fa si sr pu va ro pa ba ma ti ta im sh' pv un ∧ r0 = none) 0 0) 77 [some (.ref (A 0)), some (.ref b), some (.int (nI i)), some (.int x3), x4] [] (mdH E h A s fa si sr pu va ro pa ba ma ti ta im w pv un) 0 0) : ∀ (p : Nat), p < 13 → ∀ w : Nat → zp, (∀ j, j < 13 → w j = pmI v 13 (zo i) p j) → ga_G l E mX9_shift (ga_Rm d 0 0) (ga_Z E (fun r0 h' => ∃ sh', (∀ j, j < 13 → sh' j = shS q (zo i) 13 j) ∧ h' = mdH E h A s fa si sr pu va ro pa ba ma ti ta im sh' pv un ∧ r0 = none) 0 0) 32 [some (.ref (A 0)), some (.ref b), some (.int (nI i)), some (.int x3), some (.int (nI p))] [] (mdH E h A s fa si sr pu va ro pa ba ma ti ta im w pv un) 0 0 := by
  intro p
  induction p with
  | zero =>
    intro hp w hw
    refine gr_iload dX9_shift_32 rfl (gr_ifleN 77 dX9_shift_34 (by decide) (by omega) (fun _ => kx w _ hw) (fun z => absurd rfl z))
  | succ r ih =>
    intro hp w hw
    refine gr_iload dX9_shift_32 rfl (gr_ifleN 77 dX9_shift_34 (by decide) (by omega) (fun z => absurd z (by omega)) (fun _ => ?_))
    refine gr_aload_n dX9_shift_37 rfl ?_
    refine gr_getf dX9_shift_38 cls_X9 19 (by decide) fl_X9_66 (md_0 hA) rfl ?_
    refine gr_iload dX9_shift_41 rfl ?_
    refine gr_aload_n dX9_shift_43 rfl ?_
    refine gr_getf dX9_shift_44 cls_X9 19 (by decide) fl_X9_66 (md_0 hA) rfl ?_
    refine gr_iload dX9_shift_47 rfl ?_
    refine gr_iconst (v := nI 1) dX9_shift_49 rfl ?_
    refine gr_isub dX9_shift_50 (gr_top (congrArg Value.int (dn_top r)) ?_)
    refine gr_ialoadF dX9_shift_51 (md_13 hA) (by omega) (by decide) ?_
    refine gr_i2lN dX9_shift_52 (by have := zl (w r); omega) ?_
    refine gr_iload_n dX9_shift_53 rfl ?_
    refine gr_i2lN dX9_shift_54 (by omega) ?_
    refine gr_aload_n dX9_shift_55 rfl ?_
    refine gr_getf dX9_shift_56 cls_X9 19 (by decide) fl_X9_66 (md_0 hA) rfl ?_
    refine gr_iload dX9_shift_59 rfl ?_
    refine gr_ialoadF dX9_shift_61 (md_13 hA) (by omega) (by decide) ?_
    refine gr_i2lN dX9_shift_62 (by have := zl (w (r + 1)); omega) ?_
    refine gr_lmulN dX9_shift_63 ?_
    refine gr_laddN dX9_shift_64 ?_
    refine gr_remL (x := v (r + 1) * zo i + v r) dX9_shift_65 kl_X9_78 dX9_shift_68 (by have := zl (w r); have := zlm hi (w (r + 1)); omega) (by rw [hw r (by omega), hw (r + 1) (by omega), pmI_at (by omega), pmI_at (by omega), zo_add, zo_mul, zo_self, zo_self]; grind) ?_
    refine gr_l2iN dX9_shift_69 ?_
    refine gr_iastoreF dX9_shift_70 (md_13 hA) (by omega) (by decide) ?_
    rw [md_w13 hA]
    refine gr_iinc (v := nI r) dX9_shift_71 rfl (dn_stepS r) (by decide) rfl ?_
    refine gr_goto 32 dX9_shift_74 (by decide) ?_
    exact ih (by omega) _ (pmI_upH hw (by omega) rfl)

set_option maxHeartbeats 4000000 in
set_option maxRecDepth 100000 in
theorem c_sh_outer (l : Launch) (E : ga_E) (d : Nat) (h : ga_H) (A : Nat → Nat) (hA : ga_inj A 16) (s : Nat → Int32) (fa si sr pu va ro pa ba ma ti ta im sh un : Nat → zp) (pv : Nat → Option Nat) (b : Nat) (q : Nat → zp) (hb : ∀ sh', mdH E h A s fa si sr pu va ro pa ba ma ti ta im sh' pv un b = some (ga_f E 13 q)) (i : Nat) (hi : i ≤ 4) : ∀ (k : Nat), k ≤ 13 → ∀ (w : Nat → zp) (x4 : Option Value), (∀ j, j < 13 → w j = shS q (zo i) (13 - k) j) → ga_G l E mX9_shift (ga_Rm d 0 0) (ga_Z E (fun r0 h' => ∃ sh', (∀ j, j < 13 → sh' j = shS q (zo i) 13 j) ∧ h' = mdH E h A s fa si sr pu va ro pa ba ma ti ta im sh' pv un ∧ r0 = none) 0 0) 24 [some (.ref (A 0)), some (.ref b), some (.int (nI i)), some (.int (nI k - nI 1)), x4] [] (mdH E h A s fa si sr pu va ro pa ba ma ti ta im w pv un) 0 0 := by
  intro k
  induction k with
  | zero =>
    intro hk w x4 hw
    refine gr_iload_n dX9_shift_24 rfl (gr_iflt 109 dX9_shift_25 (by decide) (fun _ => ?_) (fun z => absurd ((dn_neg (by decide)).mpr rfl) z))
    exact gr_return dX9_shift_109 rfl (Nat.le_refl _) (Nat.le_refl _) ⟨w, hw, rfl, rfl⟩
  | succ j ih =>
    intro hk w x4 hw
    rw [dn_top]
    refine gr_iload_n dX9_shift_24 rfl (gr_ifltN dX9_shift_25 109 (by decide) (by omega) ?_)
    refine gr_bipush (v := nI 12) dX9_shift_28 (by decide) (gr_istore dX9_shift_30 (by decide) rfl ?_)
    refine c_sh_inner l E d h A hA s fa si sr pu va ro pa ba ma ti ta im sh un pv b q hb i hi (shS q (zo i) (12 - j)) _ (fun w2 y4 hw2 => ?_) 12 (by omega) w (fun n hn => ?_)
    rotate_left
    · rw [hw n hn, show 13 - (j + 1) = 12 - j by omega, pmI_at (by omega)]
    refine gr_aload_n dX9_shift_77 rfl ?_
    refine gr_getf dX9_shift_78 cls_X9 19 (by decide) fl_X9_66 (md_0 hA) rfl ?_
    refine gr_iconst (v := nI 0) dX9_shift_81 rfl ?_
    refine gr_iload_n dX9_shift_82 rfl ?_
    refine gr_i2lN dX9_shift_83 (by omega) ?_
    refine gr_aload_n dX9_shift_84 rfl ?_
    refine gr_getf dX9_shift_85 cls_X9 19 (by decide) fl_X9_66 (md_0 hA) rfl ?_
    refine gr_iconst (v := nI 0) dX9_shift_88 rfl ?_
    refine gr_ialoadF dX9_shift_89 (md_13 hA) (by omega) (by decide) ?_
    refine gr_i2lN dX9_shift_90 (by have := zl (w2 0); omega) ?_
    refine gr_lmulN dX9_shift_91 ?_
    refine gr_aload_n dX9_shift_92 rfl ?_
    refine gr_iload_n dX9_shift_93 rfl ?_
    refine gr_ialoadF dX9_shift_94 (hb _) (by omega) (by decide) ?_
    refine gr_i2lN dX9_shift_95 (by have := zl (q j); omega) ?_
    refine gr_laddN dX9_shift_96 ?_
    refine gr_remL (x := zo i * shS q (zo i) (12 - j) 0 + q j) dX9_shift_97 kl_X9_78 dX9_shift_100 (by have := zl (q j); have := zlm hi (w2 0); omega) (by rw [hw2 0 (by omega), pmI_at (by omega), zo_add, zo_mul, zo_self, zo_self]) ?_
    refine gr_l2iN dX9_shift_101 ?_
    refine gr_iastoreF dX9_shift_102 (md_13 hA) (by omega) (by decide) ?_
    rw [md_w13 hA]
    refine gr_iinc (v := nI j - nI 1) dX9_shift_103 rfl (dn_step j) (by decide) rfl ?_
    refine gr_goto 24 dX9_shift_106 (by decide) ?_
    refine ih (by omega) _ _ ?_
    rw [show 13 - j = 12 - j + 1 by omega]
    exact shS_up hw2 (by rw [show 12 - (12 - j) = j by omega])

set_option maxHeartbeats 4000000 in
set_option maxRecDepth 100000 in
theorem c_sh_zero (l : Launch) (E : ga_E) (d : Nat) (h : ga_H) (A : Nat → Nat) (hA : ga_inj A 16) (s : Nat → Int32) (fa si sr pu va ro pa ba ma ti ta im sh un : Nat → zp) (pv : Nat → Option Nat) (b : Nat) (q : Nat → zp) (hb : ∀ sh', mdH E h A s fa si sr pu va ro pa ba ma ti ta im sh' pv un b = some (ga_f E 13 q)) (i : Nat) (hi : i ≤ 4) : ∀ (g b0 : Nat) (w : Nat → zp), b0 + g = 13 → (∀ j, j < b0 → w j = 0) → ga_G l E mX9_shift (ga_Rm d 0 0) (ga_Z E (fun r0 h' => ∃ sh', (∀ j, j < 13 → sh' j = shS q (zo i) 13 j) ∧ h' = mdH E h A s fa si sr pu va ro pa ba ma ti ta im sh' pv un ∧ r0 = none) 0 0) 2 [some (.ref (A 0)), some (.ref b), some (.int (nI i)), some (.int (nI b0)), none] [] (mdH E h A s fa si sr pu va ro pa ba ma ti ta im w pv un) 0 0 := by
  intro g
  induction g with
  | zero =>
    intro b0 w hb0 hlt
    refine gr_iload_n dX9_shift_2 rfl (gr_bipush (v := nI 13) dX9_shift_3 (by decide) ?_)
    refine gr_icmpgeN 21 dX9_shift_5 (by decide) (by omega) (by omega) (fun _ => ?_) (fun z => absurd z (by omega))
    refine gr_bipush (v := nI 12) dX9_shift_21 (by decide) (gr_istore_n dX9_shift_23 (by decide) rfl ?_)
    exact c_sh_outer l E d h A hA s fa si sr pu va ro pa ba ma ti ta im sh un pv b q hb i hi 13 (by omega) w _ (fun j hj => hlt j (by omega))
  | succ g ih =>
    intro b0 w hb0 hlt
    refine gr_iload_n dX9_shift_2 rfl (gr_bipush (v := nI 13) dX9_shift_3 (by decide) ?_)
    refine gr_icmpgeN 21 dX9_shift_5 (by decide) (by omega) (by omega) (fun z => absurd z (by omega)) (fun _ => ?_)
    refine gr_aload_n dX9_shift_8 rfl ?_
    refine gr_getf dX9_shift_9 cls_X9 19 (by decide) fl_X9_66 (md_0 hA) rfl ?_
    refine gr_iload_n dX9_shift_12 rfl ?_
    refine gr_iconst (v := nI (0 : zp).val) dX9_shift_13 rfl ?_
    refine gr_iastoreF (x := 0) dX9_shift_14 (md_13 hA) (by omega) (by decide) ?_
    rw [md_w13 hA]
    refine gr_iinc (v := nI (_ + 1)) dX9_shift_15 rfl (nI_1 _) (by decide) rfl ?_
    refine gr_goto 2 dX9_shift_18 (by decide) ?_
    refine ih (b0 + 1) _ (by omega) (fun j hj => ?_)
    by_cases e : j = b0
    · rw [e, va_us]
    · rw [va_un e]; exact hlt j (by omega)

set_option maxHeartbeats 4000000 in
set_option maxRecDepth 100000 in
theorem c_shift (l : Launch) (E : ga_E) (d : Nat) (h : ga_H) (A : Nat → Nat) (hA : ga_inj A 16) (s : Nat → Int32) (fa si sr pu va ro pa ba ma ti ta im sh un : Nat → zp) (pv : Nat → Option Nat) (b : Nat) (q : Nat → zp) (hb : ∀ sh', mdH E h A s fa si sr pu va ro pa ba ma ti ta im sh' pv un b = some (ga_f E 13 q)) (i : Nat) (hi : i ≤ 4) : ga_Ok l E d mX9_shift [.ref (A 0), .ref b, .int (nI i)] (mdH E h A s fa si sr pu va ro pa ba ma ti ta im sh pv un) 0 0 (fun r0 h' => ∃ sh', (∀ j, j < 13 → sh' j = shS q (zo i) 13 j) ∧ h' = mdH E h A s fa si sr pu va ro pa ba ma ti ta im sh' pv un ∧ r0 = none) := by
  refine ga_Ok.of 2 _ (by decide) rfl (Nat.le_of_ble_eq_true rfl) rfl ?_
  refine gr_iconst (v := nI 0) dX9_shift_0 rfl ?_
  refine gr_istore_n dX9_shift_1 (by decide) rfl ?_
  exact c_sh_zero l E d h A hA s fa si sr pu va ro pa ba ma ti ta im sh un pv b q hb i hi 13 0 sh (by omega) (fun j hj => absurd hj (by omega))

set_option maxHeartbeats 4000000 in
set_option maxRecDepth 100000 in
theorem c_ap_b (l : Launch) (E : ga_E) (d : Nat) (h : ga_H) (A : Nat → Nat) (hA : ga_inj A 16) (s : Nat → Int32) (fa si sr pu va ro pa ba ma ti ta im sh un : Nat → zp) (pv : Nat → Option Nat) (b : Nat) (q : Nat → zp) (hb : ∀ im' sh', mdH E h A s fa si sr pu va ro pa ba ma ti ta im' sh' pv un b = some (ga_f E 13 q)) (z : zp) (o : Nat) (ho : s 1 = nI o) (ho4 : o ≤ 4) (i : Nat) (hi : i ≤ o) (a : Nat) (ha : a < 7) (sw : Nat → zp) (hsw : ∀ j, j < 13 → sw j = shS q (zo i) 13 j) (x4 : Option Value) (kx : ∀ (w : Nat → zp) (x7 x9 : Option Value), (∀ n, n < 19 → w n = apI q z fa i (a + 1) 0 n) → ga_G l E mX9_apply (ga_Rm (d + 1) 0 0) (ga_Z E (fun r0 h' => ∃ im' sh', (∀ n, n < 19 → im' n = apE q z fa o n) ∧ h' = mdH E h A s fa si sr pu va ro pa ba ma ti ta im' sh' pv un ∧ r0 = none) 0 0) 131 [some (.ref (A 0)), some (.ref b), some (.int (nI z.val)), some (.int (nI i)), x4, none, some (.int (nI a)), x7, none, x9] [] (mdH E h A s fa si sr pu va ro pa ba ma ti ta w sw pv un) 0 0) : ∀ (g c : Nat) (w : Nat → zp), c + g = 13 → (∀ n, n < 19 → w n = apI q z fa i a c n) → ga_G l E mX9_apply (ga_Rm (d + 1) 0 0) (ga_Z E (fun r0 h' => ∃ im' sh', (∀ n, n < 19 → im' n = apE q z fa o n) ∧ h' = mdH E h A s fa si sr pu va ro pa ba ma ti ta im' sh' pv un ∧ r0 = none) 0 0) 80 [some (.ref (A 0)), some (.ref b), some (.int (nI z.val)), some (.int (nI i)), x4, none, some (.int (nI a)), some (.long (lN (fa (7 * i + a) * zpow z i).val)), none, some (.int (nI c))] [] (mdH E h A s fa si sr pu va ro pa ba ma ti ta w sw pv un) 0 0 := by
  intro g
  induction g with
  | zero =>
    intro c w hc hw
    refine gr_iload dX9_apply_80 rfl (gr_bipush (v := nI 13) dX9_apply_82 (by decide) ?_)
    refine gr_icmpgeN 131 dX9_apply_84 (by decide) (by omega) (by omega) (fun _ => ?_) (fun z => absurd z (by omega))
    exact kx w _ _ (fun n hn => by rw [← apI_a, hw n hn, show c = 13 by omega])
  | succ g ih =>
    intro c w hc hw
    refine gr_iload dX9_apply_80 rfl (gr_bipush (v := nI 13) dX9_apply_82 (by decide) ?_)
    refine gr_icmpgeN 131 dX9_apply_84 (by decide) (by omega) (by omega) (fun z => absurd z (by omega)) (fun _ => ?_)
    refine gr_aload_n dX9_apply_87 rfl ?_
    refine gr_getf dX9_apply_88 cls_X9 18 (by decide) fl_X9_63 (md_0 hA) rfl ?_
    refine gr_iload dX9_apply_91 rfl ?_
    refine gr_iload dX9_apply_93 rfl ?_
    refine gr_iaddN dX9_apply_95 ?_
    refine gr_aload_n dX9_apply_96 rfl ?_
    refine gr_getf dX9_apply_97 cls_X9 18 (by decide) fl_X9_63 (md_0 hA) rfl ?_
    refine gr_iload dX9_apply_100 rfl ?_
    refine gr_iload dX9_apply_102 rfl ?_
    refine gr_iaddN dX9_apply_104 ?_
    refine gr_ialoadF dX9_apply_105 (md_12 hA) (by omega) (by decide) ?_
    refine gr_i2lN dX9_apply_106 (by have := zl (w (a + c)); omega) ?_
    refine gr_lload dX9_apply_107 rfl ?_
    refine gr_aload_n dX9_apply_109 rfl ?_
    refine gr_getf dX9_apply_110 cls_X9 19 (by decide) fl_X9_66 (md_0 hA) rfl ?_
    refine gr_iload dX9_apply_113 rfl ?_
    refine gr_ialoadF dX9_apply_115 (md_13 hA) (by omega) (by decide) ?_
    refine gr_i2lN dX9_apply_116 (by have := zl (sw c); omega) ?_
    refine gr_lmulN dX9_apply_117 ?_
    refine gr_laddN dX9_apply_118 ?_
    refine gr_remL (x := w (a + c) + fa (7 * i + a) * zpow z i * shS q (zo i) 13 c) dX9_apply_119 kl_X9_78 dX9_apply_122 (by have := zl (w (a + c)); have := zmul_ll (fa (7 * i + a) * zpow z i) (sw c); omega) (by rw [zo_add, zo_mm, zo_self, hsw c (by omega)]) ?_
    refine gr_l2iN dX9_apply_123 ?_
    refine gr_iastoreF dX9_apply_124 (md_12 hA) (by omega) (by decide) ?_
    rw [md_w12 hA]
    refine gr_iinc (v := nI (_ + 1)) dX9_apply_125 rfl (nI_1 _) (by decide) rfl ?_
    refine gr_goto 80 dX9_apply_128 (by decide) ?_
    exact ih (c + 1) _ (by omega) (apI_b hw ha (by omega) rfl)

set_option maxHeartbeats 4000000 in
set_option maxRecDepth 100000 in
theorem c_ap_a (l : Launch) (E : ga_E) (d : Nat) (h : ga_H) (A : Nat → Nat) (hA : ga_inj A 16) (s : Nat → Int32) (fa si sr pu va ro pa ba ma ti ta im sh un : Nat → zp) (pv : Nat → Option Nat) (b : Nat) (q : Nat → zp) (hb : ∀ im' sh', mdH E h A s fa si sr pu va ro pa ba ma ti ta im' sh' pv un b = some (ga_f E 13 q)) (z : zp) (o : Nat) (ho : s 1 = nI o) (ho4 : o ≤ 4) (i : Nat) (hi : i ≤ o) (sw : Nat → zp) (hsw : ∀ j, j < 13 → sw j = shS q (zo i) 13 j) (kx : ∀ (w : Nat → zp) (x4 x6 x7 x9 : Option Value), (∀ n, n < 19 → w n = apI q z fa (i + 1) 0 0 n) → ga_G l E mX9_apply (ga_Rm (d + 1) 0 0) (ga_Z E (fun r0 h' => ∃ im' sh', (∀ n, n < 19 → im' n = apE q z fa o n) ∧ h' = mdH E h A s fa si sr pu va ro pa ba ma ti ta im' sh' pv un ∧ r0 = none) 0 0) 137 [some (.ref (A 0)), some (.ref b), some (.int (nI z.val)), some (.int (nI i)), x4, none, x6, x7, none, x9] [] (mdH E h A s fa si sr pu va ro pa ba ma ti ta w sw pv un) 0 0) : ∀ (g a : Nat) (w : Nat → zp) (x7 x9 : Option Value), a + g = 7 → (∀ n, n < 19 → w n = apI q z fa i a 0 n) → ga_G l E mX9_apply (ga_Rm (d + 1) 0 0) (ga_Z E (fun r0 h' => ∃ im' sh', (∀ n, n < 19 → im' n = apE q z fa o n) ∧ h' = mdH E h A s fa si sr pu va ro pa ba ma ti ta im' sh' pv un ∧ r0 = none) 0 0) 48 [some (.ref (A 0)), some (.ref b), some (.int (nI z.val)), some (.int (nI i)), some (.long (lN (zpow z i).val)), none, some (.int (nI a)), x7, none, x9] [] (mdH E h A s fa si sr pu va ro pa ba ma ti ta w sw pv un) 0 0 := by
  intro g
  induction g with
  | zero =>
    intro a w x7 x9 ha hw
    refine gr_iload dX9_apply_48 rfl (gr_bipush (v := nI 7) dX9_apply_50 (by decide) ?_)
    refine gr_icmpgeN 137 dX9_apply_52 (by decide) (by omega) (by omega) (fun _ => ?_) (fun z => absurd z (by omega))
    exact kx w _ _ _ _ (fun n hn => by rw [← apI_i, hw n hn, show a = 7 by omega])
  | succ g ih =>
    intro a w x7 x9 ha hw
    refine gr_iload dX9_apply_48 rfl (gr_bipush (v := nI 7) dX9_apply_50 (by decide) ?_)
    refine gr_icmpgeN 137 dX9_apply_52 (by decide) (by omega) (by omega) (fun z => absurd z (by omega)) (fun _ => ?_)
    refine gr_aload_n dX9_apply_55 rfl ?_
    refine gr_getf dX9_apply_56 cls_X9 2 (by decide) fl_X9_13 (md_0 hA) rfl ?_
    refine gr_bipush (v := nI 7) dX9_apply_59 (by decide) ?_
    refine gr_iload_n dX9_apply_61 rfl ?_
    refine gr_imulN dX9_apply_62 ?_
    refine gr_iload dX9_apply_63 rfl ?_
    refine gr_iaddN dX9_apply_65 ?_
    refine gr_ialoadF dX9_apply_66 (md_1 hA) (by omega) (by decide) ?_
    refine gr_i2lN dX9_apply_67 (by have := zl (fa (7 * i + a)); omega) ?_
    refine gr_lload dX9_apply_68 rfl ?_
    refine gr_lmulN dX9_apply_70 ?_
    refine gr_remL (x := fa (7 * i + a) * zpow z i) dX9_apply_71 kl_X9_78 dX9_apply_74 (by have := zmul_ll (fa (7 * i + a)) (zpow z i); omega) (zo_mm _ _) ?_
    refine gr_lstore dX9_apply_75 (by decide) rfl ?_
    refine gr_iconst (v := nI 0) dX9_apply_77 rfl ?_
    refine gr_istore dX9_apply_78 (by decide) rfl ?_
    refine c_ap_b l E d h A hA s fa si sr pu va ro pa ba ma ti ta im sh un pv b q hb z o ho ho4 i hi a (by omega) sw hsw _ (fun w2 y7 y9 hw2 => ?_) 13 0 w (by omega) hw
    refine gr_iinc (v := nI (_ + 1)) dX9_apply_131 rfl (nI_1 _) (by decide) rfl ?_
    refine gr_goto 48 dX9_apply_134 (by decide) ?_
    exact ih (a + 1) w2 _ _ (by omega) hw2

set_option maxHeartbeats 4000000 in
set_option maxRecDepth 100000 in
theorem c_ap_i (l : Launch) (E : ga_E) (d : Nat) (h : ga_H) (A : Nat → Nat) (hA : ga_inj A 16) (s : Nat → Int32) (fa si sr pu va ro pa ba ma ti ta im sh un : Nat → zp) (pv : Nat → Option Nat) (b : Nat) (q : Nat → zp) (hb : ∀ im' sh', mdH E h A s fa si sr pu va ro pa ba ma ti ta im' sh' pv un b = some (ga_f E 13 q)) (z : zp) (o : Nat) (ho : s 1 = nI o) (ho4 : o ≤ 4) : ∀ (g i : Nat) (w sw0 : Nat → zp) (x4 x6 x7 x9 : Option Value), i + g = o + 1 → (∀ n, n < 19 → w n = apI q z fa i 0 0 n) → ga_G l E mX9_apply (ga_Rm (d + 1) 0 0) (ga_Z E (fun r0 h' => ∃ im' sh', (∀ n, n < 19 → im' n = apE q z fa o n) ∧ h' = mdH E h A s fa si sr pu va ro pa ba ma ti ta im' sh' pv un ∧ r0 = none) 0 0) 23 [some (.ref (A 0)), some (.ref b), some (.int (nI z.val)), some (.int (nI i)), x4, none, x6, x7, none, x9] [] (mdH E h A s fa si sr pu va ro pa ba ma ti ta w sw0 pv un) 0 0 := by
  intro g
  induction g with
  | zero =>
    intro i w sw0 x4 x6 x7 x9 hi hw
    refine gr_iload_n dX9_apply_23 rfl (gr_aload_n dX9_apply_24 rfl (gr_getf dX9_apply_25 cls_X9 1 (by decide) fl_X9_75 (md_0 hA) rfl (gr_top (congrArg Value.int ho) ?_)))
    refine gr_icmpgtN 143 dX9_apply_28 (by decide) (by omega) (by omega) (fun _ => ?_) (fun z => absurd z (by omega))
    exact gr_return dX9_apply_143 rfl (Nat.le_refl _) (Nat.le_refl _) ⟨w, sw0, fun n hn => by rw [← apI_E, hw n hn, show i = o + 1 by omega], rfl, rfl⟩
  | succ g ih =>
    intro i w sw0 x4 x6 x7 x9 hi hw
    refine gr_iload_n dX9_apply_23 rfl (gr_aload_n dX9_apply_24 rfl (gr_getf dX9_apply_25 cls_X9 1 (by decide) fl_X9_75 (md_0 hA) rfl (gr_top (congrArg Value.int ho) ?_)))
    refine gr_icmpgtN 143 dX9_apply_28 (by decide) (by omega) (by omega) (fun z => absurd z (by omega)) (fun _ => ?_)
    refine gr_aload_n dX9_apply_31 rfl ?_
    refine gr_aload_n dX9_apply_32 rfl ?_
    refine gr_iload_n dX9_apply_33 rfl ?_
    refine gr_callV dX9_apply_34 (c_shift l E d h A hA s fa si sr pu va ro pa ba ma ti ta w sw0 un pv b q (fun sh1 => hb w sh1) i (by omega)) ysX9_shift ⟨ml_X9_80, im_X9_shift, sl_X9_shift⟩ (md_0 hA) (show vwCl[9]? = some (RX9, TX9, _) from rfl) rfl rfl (Nat.le_of_ble_eq_true rfl) ⟨(Nat.le_refl _), (Nat.le_refl _)⟩ ⟨(Nat.le_refl _), (Nat.le_refl _)⟩ (fun r0 h1 hp9 => ?_)
    obtain ⟨sw, hsw, rfl, rfl⟩ := hp9
    refine gr_iload_n dX9_apply_37 rfl ?_
    refine gr_iload_n dX9_apply_38 rfl ?_
    refine gr_callS dX9_apply_39 (c_mpow l E d _ z i (by omega)) ysX9_power ⟨ml_X9_84, sm_X9_power⟩ rfl rfl (Nat.le_of_ble_eq_true rfl) ⟨(Nat.le_refl _), (Nat.le_refl _)⟩ ⟨(Nat.le_refl _), (Nat.le_refl _)⟩ (fun r0 h1 hp9 => ?_)
    obtain ⟨e1, rfl⟩ := hp9
    subst h1
    refine gr_i2lN dX9_apply_42 (by have := zl (zpow z i); omega) ?_
    refine gr_lstore dX9_apply_43 (by decide) rfl ?_
    refine gr_iconst (v := nI 0) dX9_apply_45 rfl ?_
    refine gr_istore dX9_apply_46 (by decide) rfl ?_
    refine c_ap_a l E d h A hA s fa si sr pu va ro pa ba ma ti ta im sh un pv b q hb z o ho ho4 i (by omega) sw hsw (fun w2 y4 y6 y7 y9 hw2 => ?_) 7 0 w _ _ (by omega) hw
    refine gr_iinc (v := nI (_ + 1)) dX9_apply_137 rfl (nI_1 _) (by decide) rfl ?_
    refine gr_goto 23 dX9_apply_140 (by decide) ?_
    exact ih (i + 1) w2 _ _ _ _ _ (by omega) hw2

set_option maxHeartbeats 4000000 in
set_option maxRecDepth 100000 in
theorem c_ap_zero (l : Launch) (E : ga_E) (d : Nat) (h : ga_H) (A : Nat → Nat) (hA : ga_inj A 16) (s : Nat → Int32) (fa si sr pu va ro pa ba ma ti ta im sh un : Nat → zp) (pv : Nat → Option Nat) (b : Nat) (q : Nat → zp) (hb : ∀ im' sh', mdH E h A s fa si sr pu va ro pa ba ma ti ta im' sh' pv un b = some (ga_f E 13 q)) (z : zp) (o : Nat) (ho : s 1 = nI o) (ho4 : o ≤ 4) : ∀ (g b0 : Nat) (w : Nat → zp), b0 + g = 19 → (∀ j, j < b0 → w j = 0) → ga_G l E mX9_apply (ga_Rm (d + 1) 0 0) (ga_Z E (fun r0 h' => ∃ im' sh', (∀ n, n < 19 → im' n = apE q z fa o n) ∧ h' = mdH E h A s fa si sr pu va ro pa ba ma ti ta im' sh' pv un ∧ r0 = none) 0 0) 2 [some (.ref (A 0)), some (.ref b), some (.int (nI z.val)), some (.int (nI b0)), none, none, none, none, none, none] [] (mdH E h A s fa si sr pu va ro pa ba ma ti ta w sh pv un) 0 0 := by
  intro g
  induction g with
  | zero =>
    intro b0 w hb0 hlt
    refine gr_iload_n dX9_apply_2 rfl (gr_bipush (v := nI 19) dX9_apply_3 (by decide) ?_)
    refine gr_icmpgeN 21 dX9_apply_5 (by decide) (by omega) (by omega) (fun _ => ?_) (fun z => absurd z (by omega))
    refine gr_iconst (v := nI 0) dX9_apply_21 rfl (gr_istore_n dX9_apply_22 (by decide) rfl ?_)
    exact c_ap_i l E d h A hA s fa si sr pu va ro pa ba ma ti ta im sh un pv b q hb z o ho ho4 (o + 1) 0 w sh _ _ _ _ (by omega) (fun n hn => by rw [apI_0]; exact hlt n (by omega))
  | succ g ih =>
    intro b0 w hb0 hlt
    refine gr_iload_n dX9_apply_2 rfl (gr_bipush (v := nI 19) dX9_apply_3 (by decide) ?_)
    refine gr_icmpgeN 21 dX9_apply_5 (by decide) (by omega) (by omega) (fun z => absurd z (by omega)) (fun _ => ?_)
    refine gr_aload_n dX9_apply_8 rfl ?_
    refine gr_getf dX9_apply_9 cls_X9 18 (by decide) fl_X9_63 (md_0 hA) rfl ?_
    refine gr_iload_n dX9_apply_12 rfl ?_
    refine gr_iconst (v := nI (0 : zp).val) dX9_apply_13 rfl ?_
    refine gr_iastoreF (x := 0) dX9_apply_14 (md_12 hA) (by omega) (by decide) ?_
    rw [md_w12 hA]
    refine gr_iinc (v := nI (_ + 1)) dX9_apply_15 rfl (nI_1 _) (by decide) rfl ?_
    refine gr_goto 2 dX9_apply_18 (by decide) ?_
    refine ih (b0 + 1) _ (by omega) (fun j hj => ?_)
    by_cases e : j = b0
    · rw [e, va_us]
    · rw [va_un e]; exact hlt j (by omega)

set_option maxHeartbeats 4000000 in
set_option maxRecDepth 100000 in
theorem c_apply (l : Launch) (E : ga_E) (d : Nat) (h : ga_H) (A : Nat → Nat) (hA : ga_inj A 16) (s : Nat → Int32) (fa si sr pu va ro pa ba ma ti ta im sh un : Nat → zp) (pv : Nat → Option Nat) (b : Nat) (q : Nat → zp) (hb : ∀ im' sh', mdH E h A s fa si sr pu va ro pa ba ma ti ta im' sh' pv un b = some (ga_f E 13 q)) (z : zp) (o : Nat) (ho : s 1 = nI o) (ho4 : o ≤ 4) : ga_Ok l E (d + 1) mX9_apply [.ref (A 0), .ref b, .int (nI z.val)] (mdH E h A s fa si sr pu va ro pa ba ma ti ta im sh pv un) 0 0 (fun r0 h' => ∃ im' sh', (∀ n, n < 19 → im' n = apE q z fa o n) ∧ h' = mdH E h A s fa si sr pu va ro pa ba ma ti ta im' sh' pv un ∧ r0 = none) := by
  refine ga_Ok.of 7 _ (by decide) rfl (Nat.le_of_ble_eq_true rfl) rfl ?_
  refine gr_iconst (v := nI 0) dX9_apply_0 rfl ?_
  refine gr_istore_n dX9_apply_1 (by decide) rfl ?_
  exact c_ap_zero l E d h A hA s fa si sr pu va ro pa ba ma ti ta im sh un pv b q hb z o ho ho4 19 0 im (by omega) (fun j hj => absurd hj (by omega))
