/-! The reference: value, singular -/
abbrev FF (fa : Nat → zp) (i : Nat) : Nat → zp := fun a => fa (7 * i + a)
theorem demI_congr {F : Nat → Nat → zp} {S y y' : Nat → zp} {p kn : Nat} (h : ∀ j, j < kn → y j = y' j) : ∀ i, p + i ≤ kn → demI F S y p i = demI F S y' p i
  | 0, _ => rfl
  | i + 1, hi => by
    show demI F S y p i - _ * y (p + i) = demI F S y' p i - _ * y' (p + i)
    rw [demI_congr h i (by omega), h (p + i) (by omega)]
theorem vaR_congr {F : Nat → Nat → zp} {S : Nat → zp} {g : Nat} : ∀ (k kn : Nat) (y y' : Nat → zp), g ≤ kn → (∀ j, j < kn → y j = y' j) → (vaR F S g k kn y).1 = (vaR F S g k kn y').1 ∧ (vaR F S g k kn y).2.1 = (vaR F S g k kn y').2.1 ∧ ∀ j, j < (vaR F S g k kn y).2.1 → (vaR F S g k kn y).2.2 j = (vaR F S g k kn y').2.2 j
  | 0, kn, y, y', _, h => ⟨rfl, rfl, h⟩
  | k + 1, kn, y, y', hg, h => by
    by_cases c : phor (F g) (zo (kn - g)) 7 0 = 0
    · have e : ∀ y, vaR F S g (k + 1) kn y = (false, kn, y) := fun y => if_pos c
      rw [e y, e y']
      exact ⟨rfl, rfl, h⟩
    · have e : ∀ y, vaR F S g (k + 1) kn y = vaR F S g k (kn + 1) (va_up y kn (demI F S y (kn - g) g * zinv (phor (F g) (zo (kn - g)) 7 0))) := fun y => if_neg c
      rw [e y, e y', demI_congr h g (by omega)]
      refine vaR_congr k (kn + 1) _ _ (by omega) (fun j hj => ?_)
      by_cases ej : j = kn
      · rw [ej, va_us, va_us]
      · rw [va_un ej, va_un ej]; exact h j (by omega)
theorem vaR_full {F : Nat → Nat → zp} {S : Nat → zp} {g : Nat} : ∀ (k kn : Nat) (y : Nat → zp), (vaR F S g k kn y).1 = true → (vaR F S g k kn y).2.1 = kn + k
  | 0, kn, y, _ => rfl
  | k + 1, kn, y, h => by
    by_cases c : phor (F g) (zo (kn - g)) 7 0 = 0
    · have e : vaR F S g (k + 1) kn y = (false, kn, y) := if_pos c
      rw [e] at h; cases h
    · have e : vaR F S g (k + 1) kn y = vaR F S g k (kn + 1) (va_up y kn (demI F S y (kn - g) g * zinv (phor (F g) (zo (kn - g)) 7 0))) := if_neg c
      rw [e] at h ⊢
      rw [vaR_full k (kn + 1) _ h]; omega
/-- what is left to do from k on leads to R -/
def vlC (F : Nat → Nat → zp) (S : Nat → zp) (g n : Nat) (R : Bool × Nat × (Nat → zp)) (k : Nat) (w : Nat → zp) : Prop := (vaR F S g (n + 1 - k) k w).1 = R.1 ∧ (R.1 = true → (vaR F S g (n + 1 - k) k w).2.2 n = R.2.2 n)
theorem vlC_0 {F : Nat → Nat → zp} {S : Nat → zp} {g n t : Nat} {sr w : Nat → zp} (hg : g ≤ t) (ht : t ≤ n + 1) (h : ∀ j, j < t → w j = sr j) : vlC F S g n (vaR F S g (n + 1 - t) t sr) t w := by
  obtain ⟨a, b, c⟩ := vaR_congr (F := F) (S := S) (n + 1 - t) t w sr hg h
  refine ⟨a, fun z => c n ?_⟩
  rw [vaR_full _ _ _ (a.trans z)]; omega
theorem vlC_s {F : Nat → Nat → zp} {S : Nat → zp} {g n k : Nat} {R : Bool × Nat × (Nat → zp)} {w : Nat → zp} (hk : k ≤ n) (h : vlC F S g n R k w) (c : phor (F g) (zo (k - g)) 7 0 ≠ 0) : vlC F S g n R (k + 1) (va_up w k (demI F S w (k - g) g * zinv (phor (F g) (zo (k - g)) 7 0))) := by
  unfold vlC at h
  rw [show n + 1 - k = (n + 1 - (k + 1)) + 1 by omega] at h
  have e : vaR F S g ((n + 1 - (k + 1)) + 1) k w = vaR F S g (n + 1 - (k + 1)) (k + 1) (va_up w k (demI F S w (k - g) g * zinv (phor (F g) (zo (k - g)) 7 0))) := if_neg c
  rw [e] at h
  exact h
theorem vlC_f {F : Nat → Nat → zp} {S : Nat → zp} {g n k : Nat} {R : Bool × Nat × (Nat → zp)} {w : Nat → zp} (hk : k ≤ n) (h : vlC F S g n R k w) (c : phor (F g) (zo (k - g)) 7 0 = 0) : R.1 = false := by
  unfold vlC at h
  rw [show n + 1 - k = (n + 1 - (k + 1)) + 1 by omega] at h
  have e : vaR F S g ((n + 1 - (k + 1)) + 1) k w = (false, k, w) := if_pos c
  rw [e] at h
  exact h.1.symm
theorem vlC_e {F : Nat → Nat → zp} {S : Nat → zp} {g n : Nat} {R : Bool × Nat × (Nat → zp)} {w : Nat → zp} (h : vlC F S g n R (n + 1) w) : R.1 = true ∧ w n = R.2.2 n := by
  unfold vlC at h
  rw [Nat.sub_self] at h
  exact ⟨h.1.symm, h.2 h.1.symm⟩
theorem zs0 (si : Nat → zp) : (fun j => si (0 + j)) = si := by funext j; rw [Nat.zero_add]
theorem zsubp (v a y : zp) : zo (v.val + (32003 - a.val) * y.val) = v - a * y := by
  rw [zo_add, zo_mul, zneg_mod, zo_self, zo_self]; grind

set_option maxHeartbeats 4000000 in
set_option maxRecDepth 100000 in
theorem c_vl_inner (l : Launch) (E : ga_E) (d : Nat) (h : ga_H) (A : Nat → Nat) (hA : ga_inj A 16) (s : Nat → Int32) (fa si sr pu va ro pa ba ma ti ta im sh un : Nat → zp) (pv : Nat → Option Nat) (t : Nat) (ht : s 5 = nI t) (ht12 : t ≤ 12) (n : Nat) (hn : n < 301) (g : Nat) (hg : g ≤ t) (hg4 : g ≤ 4) (PP : Option Value → ga_H → Prop) (hPP : ∀ va' : Nat → zp, PP (some (.int (if (vaR (FF fa) si g (n + 1 - t) t sr).1 = true then nI ((vaR (FF fa) si g (n + 1 - t) t sr).2.2 n).val else -1))) (mdH E h A (va_up s 0 (nI 0)) fa si sr pu va' ro pa ba ma ti ta im sh pv un)) (k x : Nat) (hx : x + g = k) (hk : k ≤ n) (by0 : Int32) (w : Nat → zp) (kx : ∀ x8 : Option Value, ga_G l E mX9_value (ga_Rm (d + 1) 0 0) (ga_Z E PP 0 0) 182 [some (.ref (A 0)), some (.int (nI n)), some (.int (nI g)), some (.int (nI k)), some (.int (nI x)), some (.int by0), some (.long (lN (demI (FF fa) si w x g).val)), none, x8] [] (mdH E h A (va_up s 0 (nI 0)) fa si sr pu w ro pa ba ma ti ta im sh pv un) 0 0) : ∀ (g0 i : Nat), i + g0 = g → ga_G l E mX9_value (ga_Rm (d + 1) 0 0) (ga_Z E PP 0 0) 127 [some (.ref (A 0)), some (.int (nI n)), some (.int (nI g)), some (.int (nI k)), some (.int (nI x)), some (.int by0), some (.long (lN (demI (FF fa) si w x i).val)), none, some (.int (nI i))] [] (mdH E h A (va_up s 0 (nI 0)) fa si sr pu w ro pa ba ma ti ta im sh pv un) 0 0 := by
  intro g0
  induction g0 with
  | zero =>
    intro i hi
    refine gr_iload dX9_value_127 rfl (gr_iload_n dX9_value_129 rfl ?_)
    refine gr_icmpgeN 182 dX9_value_130 (by decide) (by omega) (by omega) (fun _ => ?_) (fun z => absurd z (by omega))
    rw [show i = g by omega]
    exact kx _
  | succ g0 ih =>
    intro i hi
    refine gr_iload dX9_value_127 rfl (gr_iload_n dX9_value_129 rfl ?_)
    refine gr_icmpgeN 182 dX9_value_130 (by decide) (by omega) (by omega) (fun z => absurd z (by omega)) (fun _ => ?_)
    refine gr_lload dX9_value_133 rfl ?_
    refine gr_sipush (v := nI 32003) dX9_value_135 (by decide) ?_
    refine gr_aload_n dX9_value_138 rfl ?_
    refine gr_aload_n dX9_value_139 rfl ?_
    refine gr_getf dX9_value_140 cls_X9 2 (by decide) fl_X9_13 (md_0 hA) rfl ?_
    refine gr_bipush (v := nI 7) dX9_value_143 (by decide) ?_
    refine gr_iload dX9_value_145 rfl ?_
    refine gr_imulN dX9_value_147 ?_
    refine gr_bipush (v := nI 7) dX9_value_148 (by decide) ?_
    refine gr_iload dX9_value_150 rfl ?_
    refine gr_callV dX9_value_152 (c_mat l E d _ (A 0) (A 1) (7 * i) 7 35 x _ (md_1 hA) (by omega) (by omega) (by omega)) ysX9_at ⟨ml_X9_121, im_X9_at, sl_X9_at⟩ (md_0 hA) (show vwCl[9]? = some (RX9, TX9, _) from rfl) rfl rfl (Nat.le_of_ble_eq_true rfl) ⟨(Nat.le_refl _), (Nat.le_refl _)⟩ ⟨(Nat.le_refl _), (Nat.le_refl _)⟩ (fun r0 h1 hp9 => ?_)
    obtain ⟨e1, rfl⟩ := hp9
    subst h1
    refine gr_isubN dX9_value_155 (by have := zl (phor (FF fa i) (zo x) 7 0); omega) ?_
    refine gr_i2lN dX9_value_156 (by omega) ?_
    refine gr_aload_n dX9_value_157 rfl ?_
    refine gr_getf dX9_value_158 cls_X9 7 (by decide) fl_X9_29 (md_0 hA) rfl ?_
    refine gr_iload dX9_value_161 rfl ?_
    refine gr_iload dX9_value_163 rfl ?_
    refine gr_iaddN dX9_value_165 ?_
    refine gr_ialoadF dX9_value_166 (md_5 hA) (by omega) (by decide) ?_
    refine gr_i2lN dX9_value_167 (by have := zl (w (x + i)); omega) ?_
    refine gr_lmulN dX9_value_168 ?_
    refine gr_laddN dX9_value_169 ?_
    refine gr_remL (x := demI (FF fa) si w x (i + 1)) dX9_value_170 kl_X9_78 dX9_value_173 (by have := zl (demI (FF fa) si w x i); have h8 : (32003 - (phor (fun j => fa (7 * i + j)) (zo x) 7 0).val) * (w (x + i)).val ≤ 32003 * 32003 := Nat.mul_le_mul (by omega) (Nat.le_of_lt (zl _)); omega) (zsubp _ _ _) ?_
    refine gr_lstore dX9_value_174 (by decide) rfl ?_
    refine gr_iinc (v := nI (_ + 1)) dX9_value_176 rfl (nI_1 _) (by decide) rfl ?_
    refine gr_goto 127 dX9_value_179 (by decide) ?_
    exact ih (i + 1) (by omega)

set_option maxHeartbeats 4000000 in
set_option maxRecDepth 100000 in
theorem c_vl_outer (l : Launch) (E : ga_E) (d : Nat) (h : ga_H) (A : Nat → Nat) (hA : ga_inj A 16) (s : Nat → Int32) (fa si sr pu va ro pa ba ma ti ta im sh un : Nat → zp) (pv : Nat → Option Nat) (t : Nat) (ht : s 5 = nI t) (ht12 : t ≤ 12) (n : Nat) (hn : n < 301) (g : Nat) (hg : g ≤ t) (hg4 : g ≤ 4) (PP : Option Value → ga_H → Prop) (hPP : ∀ va' : Nat → zp, PP (some (.int (if (vaR (FF fa) si g (n + 1 - t) t sr).1 = true then nI ((vaR (FF fa) si g (n + 1 - t) t sr).2.2 n).val else -1))) (mdH E h A (va_up s 0 (nI 0)) fa si sr pu va' ro pa ba ma ti ta im sh pv un)) : ∀ (g0 k : Nat) (w : Nat → zp) (x4 x5 x6 x7 x8 : Option Value), k + g0 = n + 1 → (k ≤ t → ∀ j, j < k → w j = sr j) → (t ≤ k → vlC (FF fa) si g n (vaR (FF fa) si g (n + 1 - t) t sr) k w) → ga_G l E mX9_value (ga_Rm (d + 1) 0 0) (ga_Z E PP 0 0) 50 [some (.ref (A 0)), some (.int (nI n)), some (.int (nI g)), some (.int (nI k)), x4, x5, x6, x7, x8] [] (mdH E h A (va_up s 0 (nI 0)) fa si sr pu w ro pa ba ma ti ta im sh pv un) 0 0 := by
  intro g0
  induction g0 with
  | zero =>
    intro k w x4 x5 x6 x7 x8 hk hAw hCw
    refine gr_iload_n dX9_value_50 rfl (gr_iload_n dX9_value_51 rfl ?_)
    refine gr_icmpgtN 208 dX9_value_52 (by decide) (by omega) (by omega) (fun _ => ?_) (fun z => absurd z (by omega))
    refine gr_aload_n dX9_value_208 rfl (gr_getf dX9_value_209 cls_X9 7 (by decide) fl_X9_29 (md_0 hA) rfl (gr_iload_n dX9_value_212 rfl (gr_ialoadF dX9_value_213 (md_5 hA) (by omega) (by decide) ?_)))
    have hp := hPP w
    have e : (vaR (FF fa) si g (n + 1 - t) t sr).1 = true ∧ w n = (vaR (FF fa) si g (n + 1 - t) t sr).2.2 n := by
      by_cases c : t ≤ k
      · have := hCw c
        rw [show k = n + 1 by omega] at this
        exact vlC_e this
      · rw [show n + 1 - t = 0 by omega]
        exact ⟨rfl, hAw (by omega) n (by omega)⟩
    rw [if_pos e.1, ← e.2] at hp
    exact gr_ireturn dX9_value_214 rfl (Nat.le_refl _) (Nat.le_refl _) hp
  | succ g0 ih =>
    intro k w x4 x5 x6 x7 x8 hk hAw hCw
    refine gr_iload_n dX9_value_50 rfl (gr_iload_n dX9_value_51 rfl ?_)
    refine gr_icmpgtN 208 dX9_value_52 (by decide) (by omega) (by omega) (fun z => absurd z (by omega)) (fun _ => ?_)
    refine gr_iload_n dX9_value_55 rfl ?_
    refine gr_aload_n dX9_value_56 rfl ?_
    refine gr_getf dX9_value_57 cls_X9 5 (by decide) fl_X9_23 (md_0 hA) rfl (gr_top (congrArg Value.int (show va_up s 0 (nI 0) 5 = nI t from ht)) ?_)
    refine gr_icmpgeN 78 dX9_value_60 (by decide) (by omega) (by omega) (fun c_60 => ?_) (fun c_60 => ?_)
    · refine gr_iload_n dX9_value_78 rfl ?_
      refine gr_iload_n dX9_value_79 rfl ?_
      refine gr_isubN dX9_value_80 (by omega) ?_
      refine gr_istore dX9_value_81 (by decide) rfl ?_
      refine gr_aload_n dX9_value_83 rfl ?_
      refine gr_aload_n dX9_value_84 rfl ?_
      refine gr_getf dX9_value_85 cls_X9 2 (by decide) fl_X9_13 (md_0 hA) rfl ?_
      refine gr_bipush (v := nI 7) dX9_value_88 (by decide) ?_
      refine gr_iload_n dX9_value_90 rfl ?_
      refine gr_imulN dX9_value_91 ?_
      refine gr_bipush (v := nI 7) dX9_value_92 (by decide) ?_
      refine gr_iload dX9_value_94 rfl ?_
      refine gr_callV dX9_value_96 (c_mat l E d _ (A 0) (A 1) (7 * g) 7 35 (k - g) _ (md_1 hA) (by omega) (by omega) (by omega)) ysX9_at ⟨ml_X9_121, im_X9_at, sl_X9_at⟩ (md_0 hA) (show vwCl[9]? = some (RX9, TX9, _) from rfl) rfl rfl (Nat.le_of_ble_eq_true rfl) ⟨(Nat.le_refl _), (Nat.le_refl _)⟩ ⟨(Nat.le_refl _), (Nat.le_refl _)⟩ (fun r0 h1 hp9 => ?_)
      obtain ⟨e1, rfl⟩ := hp9
      subst h1
      refine gr_istore dX9_value_99 (by decide) rfl ?_
      refine gr_iload dX9_value_101 rfl ?_
      refine gr_ifneN 108 dX9_value_103 (by decide) (by have := zl (phor (FF fa g) (zo (k - g)) 7 0); omega) (fun c_103 => ?_) (fun c_103 => ?_)
      · refine gr_aload_n dX9_value_108 rfl ?_
        refine gr_aload_n dX9_value_109 rfl ?_
        refine gr_getf dX9_value_110 cls_X9 3 (by decide) fl_X9_17 (md_0 hA) rfl ?_
        refine gr_iconst (v := nI 0) dX9_value_113 rfl ?_
        refine gr_bipush (v := nI 11) dX9_value_114 (by decide) ?_
        refine gr_iload dX9_value_116 rfl ?_
        refine gr_callV dX9_value_118 (c_mat l E d _ (A 0) (A 2) 0 11 11 (k - g) _ (md_2 hA) (by omega) (by omega) (by omega)) ysX9_at ⟨ml_X9_121, im_X9_at, sl_X9_at⟩ (md_0 hA) (show vwCl[9]? = some (RX9, TX9, _) from rfl) rfl rfl (Nat.le_of_ble_eq_true rfl) ⟨(Nat.le_refl _), (Nat.le_refl _)⟩ ⟨(Nat.le_refl _), (Nat.le_refl _)⟩ (fun r0 h1 hp9 => ?_)
        obtain ⟨e1, rfl⟩ := hp9
        subst h1
        rw [zs0]
        refine gr_i2lN dX9_value_121 (by have := zl (phor si (zo (k - g)) 11 0); omega) ?_
        refine gr_lstore dX9_value_122 (by decide) rfl ?_
        refine gr_iconst (v := nI 0) dX9_value_124 rfl ?_
        refine gr_istore dX9_value_125 (by decide) rfl ?_
        refine c_vl_inner l E d h A hA s fa si sr pu va ro pa ba ma ti ta im sh un pv t ht ht12 n hn g hg hg4 PP hPP k (k - g) (by omega) (by omega) _ w (fun y8 => ?_) g 0 (by omega)
        refine gr_aload_n dX9_value_182 rfl ?_
        refine gr_getf dX9_value_183 cls_X9 7 (by decide) fl_X9_29 (md_0 hA) rfl ?_
        refine gr_iload_n dX9_value_186 rfl ?_
        refine gr_lload dX9_value_187 rfl ?_
        refine gr_iload dX9_value_189 rfl ?_
        refine gr_callS dX9_value_191 (c_minv l E d _ (phor (FF fa g) (zo (k - g)) 7 0)) ysX9_inverse ⟨ml_X9_91, sm_X9_inverse⟩ rfl rfl (Nat.le_of_ble_eq_true rfl) ⟨(Nat.le_refl _), (Nat.le_refl _)⟩ ⟨(Nat.le_refl _), (Nat.le_refl _)⟩ (fun r0 h1 hp9 => ?_)
        obtain ⟨e1, rfl⟩ := hp9
        subst h1
        refine gr_i2lN dX9_value_194 (by have := zl (zinv (phor (FF fa g) (zo (k - g)) 7 0)); omega) ?_
        refine gr_lmulN dX9_value_195 ?_
        refine gr_remL (x := demI (FF fa) si w (k - g) g * zinv (phor (FF fa g) (zo (k - g)) 7 0)) dX9_value_196 kl_X9_78 dX9_value_199 (by have := zmul_ll (demI (FF fa) si w (k - g) g) (zinv (phor (FF fa g) (zo (k - g)) 7 0)); omega) (zo_mm _ _) ?_
        refine gr_l2iN dX9_value_200 ?_
        refine gr_iastoreF dX9_value_201 (md_5 hA) (by omega) (by decide) ?_
        rw [md_w5 hA]
        refine gr_iinc (v := nI (_ + 1)) dX9_value_202 rfl (nI_1 _) (by decide) rfl ?_
        refine gr_goto 50 dX9_value_205 (by decide) ?_
        refine ih (k + 1) _ _ _ _ _ _ (by omega) (fun z => absurd z (by omega)) (fun _ => vlC_s (by omega) (hCw c_60) (fun z => c_103 (by rw [z]; rfl)))
      · refine gr_iconst (v := -1) dX9_value_106 (by decide) ?_
        have hp := hPP w
        rw [vlC_f (by omega) (hCw c_60) (Fin.ext c_103)] at hp
        exact gr_ireturn dX9_value_107 rfl (Nat.le_refl _) (Nat.le_refl _) hp
    · refine gr_aload_n dX9_value_63 rfl ?_
      refine gr_getf dX9_value_64 cls_X9 7 (by decide) fl_X9_29 (md_0 hA) rfl ?_
      refine gr_iload_n dX9_value_67 rfl ?_
      refine gr_aload_n dX9_value_68 rfl ?_
      refine gr_getf dX9_value_69 cls_X9 4 (by decide) fl_X9_20 (md_0 hA) rfl ?_
      refine gr_iload_n dX9_value_72 rfl ?_
      refine gr_ialoadF dX9_value_73 (md_3 hA) (by omega) (by decide) ?_
      refine gr_iastoreF dX9_value_74 (md_5 hA) (by omega) (by decide) ?_
      rw [md_w5 hA]
      refine gr_goto 202 dX9_value_75 (by decide) ?_
      refine gr_iinc (v := nI (_ + 1)) dX9_value_202 rfl (nI_1 _) (by decide) rfl ?_
      refine gr_goto 50 dX9_value_205 (by decide) ?_
      have hA2 : ∀ j, j < k + 1 → va_up w k (sr k) j = sr j := fun j hj => by
        by_cases e : j = k
        · rw [e, va_us]
        · rw [va_un e]; exact hAw (by omega) j (by omega)
      refine ih (k + 1) _ _ _ _ _ _ (by omega) (fun _ => hA2) (fun htk => ?_)
      rw [show k + 1 = t by omega] at hA2 ⊢
      exact vlC_0 hg (by omega) hA2

set_option maxHeartbeats 4000000 in
set_option maxRecDepth 100000 in
theorem c_mvalue (l : Launch) (E : ga_E) (d : Nat) (h : ga_H) (A : Nat → Nat) (hA : ga_inj A 16) (s : Nat → Int32) (fa si sr pu va ro pa ba ma ti ta im sh un : Nat → zp) (pv : Nat → Option Nat) (o : Nat) (ho : s 1 = nI o) (ho4 : o ≤ 4) (t : Nat) (ht : s 5 = nI t) (ht12 : t ≤ 12) (n : Int32) : ga_Ok l E (d + 1) mX9_value [.ref (A 0), .int n] (mdH E h A s fa si sr pu va ro pa ba ma ti ta im sh pv un) 0 0 (fun r0 h' => cdP 301 n = 1 ∧ h' = mdH E h A (va_up s 0 (nI 1)) fa si sr pu va ro pa ba ma ti ta im sh pv un ∧ (∃ r, r0 = some (.int r)) ∨ cdP 301 n = 0 ∧ (∃ va', h' = mdH E h A (va_up s 0 (nI 0)) fa si sr pu va' ro pa ba ma ti ta im sh pv un) ∧ ∃ q, GrM fa o q ∧ ((q = none ∨ ∃ g, q = some g ∧ t < g) ∧ r0 = some (.int (-1)) ∨ ∃ g, q = some g ∧ g ≤ t ∧ r0 = some (.int (if (vaR (FF fa) si g (ix n + 1 - t) t sr).1 = true then nI ((vaR (FF fa) si g (ix n + 1 - t) t sr).2.2 (ix n)).val else -1)))) := by
  refine ga_Ok.of 7 _ (by decide) rfl (Nat.le_of_ble_eq_true rfl) rfl ?_
  refine gr_aload_n dX9_value_0 rfl ?_
  refine gr_iload_n dX9_value_1 rfl ?_
  refine gr_iflt 12 dX9_value_2 (by decide) (fun c_a => ?_) (fun c_a => ?_)
  · refine gr_iconst (v := nI 1) dX9_value_12 rfl ?_
    refine gr_goto 17 dX9_value_13 (by decide) ?_
    refine gr_putf dX9_value_17 cls_X9 0 (by decide) fl_X9_7 rfl rfl rfl (Nat.le_of_ble_eq_true rfl) (md_0 hA) ?_
    rw [md_s0 hA]
    refine gr_aload_n dX9_value_20 rfl ?_
    refine gr_getf dX9_value_21 cls_X9 0 (by decide) fl_X9_7 (md_0 hA) rfl ?_
    refine gr_ifeq 29 dX9_value_24 (by decide) (fun z => absurd (show nI 1 = (0 : Int32) from z) (by decide)) (fun _ => ?_)
    refine gr_iconst (v := nI 0) dX9_value_27 rfl ?_
    have hc : cdP 301 n = 1 := by unfold cdP; rw [ltR_neg c_a]; rfl
    exact gr_ireturn dX9_value_28 rfl (Nat.le_refl _) (Nat.le_refl _) (Or.inl ⟨hc, rfl, _, rfl⟩)
  · obtain ⟨j, hj, rfl⟩ := nI_of c_a
    refine gr_iload_n dX9_value_5 rfl ?_
    refine gr_sipush (v := nI 300) dX9_value_6 (by decide) ?_
    refine gr_icmpleN 16 dX9_value_9 (by decide) (by omega) (by omega) (fun c_b => ?_) (fun c_b => ?_)
    · refine gr_iconst (v := nI 0) dX9_value_16 rfl ?_
      refine gr_putf dX9_value_17 cls_X9 0 (by decide) fl_X9_7 rfl rfl rfl (Nat.le_of_ble_eq_true rfl) (md_0 hA) ?_
      rw [md_s0 hA]
      refine gr_aload_n dX9_value_20 rfl ?_
      refine gr_getf dX9_value_21 cls_X9 0 (by decide) fl_X9_7 (md_0 hA) rfl ?_
      refine gr_ifeq 29 dX9_value_24 (by decide) (fun _ => ?_) (fun z => absurd rfl z)
      refine gr_aload_n dX9_value_29 rfl ?_
      refine gr_callV dX9_value_30 (c_greatest l E d h A hA (va_up s 0 (nI 0)) fa si sr pu va ro pa ba ma ti ta im sh un pv o ho ho4) ysX9_greatest ⟨ml_X9_99, im_X9_greatest, sl_X9_greatest⟩ (md_0 hA) (show vwCl[9]? = some (RX9, TX9, _) from rfl) rfl rfl (Nat.le_of_ble_eq_true rfl) ⟨(Nat.le_refl _), (Nat.le_refl _)⟩ ⟨(Nat.le_refl _), (Nat.le_refl _)⟩ (fun r0 h1 hp9 => ?_)
      obtain ⟨rfl, q, rfl, hq⟩ := hp9
      refine gr_istore_n dX9_value_33 (by decide) rfl ?_
      rcases q with _ | g
      · refine gr_iload_n dX9_value_34 rfl (gr_iflt 46 dX9_value_35 (by decide) (fun _ => ?_) (fun z => absurd (by decide) z))
        refine gr_iconst (v := -1) dX9_value_46 (by decide) ?_
        exact gr_ireturn dX9_value_47 rfl (Nat.le_refl _) (Nat.le_refl _) (Or.inr ⟨by unfold cdP; rw [ltR_lt hj (by omega)]; rfl, ⟨va, rfl⟩, none, hq, Or.inl ⟨Or.inl rfl, rfl⟩⟩)
      · have hg4 : g ≤ 4 := by
          rcases hq with ⟨z, -⟩ | ⟨i, z, hi, -⟩
          · cases z
          · cases z; omega
        refine gr_iload_n dX9_value_34 rfl (gr_top (congrArg Value.int (show optI (some g) = nI g from rfl)) (gr_ifltN dX9_value_35 46 (by decide) (by omega) ?_))
        refine gr_aload_n dX9_value_38 rfl (gr_getf dX9_value_39 cls_X9 5 (by decide) fl_X9_23 (md_0 hA) rfl (gr_top (congrArg Value.int (show va_up s 0 (nI 0) 5 = nI t from ht)) ?_))
        refine gr_iload_n dX9_value_42 rfl (gr_top (congrArg Value.int (show optI (some g) = nI g from rfl)) ?_)
        refine gr_icmpgeN 48 dX9_value_43 (by decide) (by omega) (by omega) (fun c_43 => ?_) (fun c_43 => ?_)
        · refine gr_iconst (v := nI 0) dX9_value_48 rfl (gr_istore_n dX9_value_49 (by decide) rfl ?_)
          refine c_vl_outer l E d h A hA s fa si sr pu va ro pa ba ma ti ta im sh un pv t ht ht12 j (by omega) g c_43 hg4 _ (fun va1 => ?_) (j + 1) 0 va _ _ _ _ _ (by omega) (fun _ k hk => absurd hk (by omega)) (fun z => ?_)
          · exact Or.inr ⟨by unfold cdP; rw [ltR_lt hj (by omega)]; rfl, ⟨va1, rfl⟩, some g, hq, Or.inr ⟨g, rfl, c_43, by rw [ix_nI hj]⟩⟩
          · have : t = 0 := by omega
            subst this
            exact vlC_0 c_43 (by omega) (fun k hk => absurd hk (by omega))
        · refine gr_iconst (v := -1) dX9_value_46 (by decide) ?_
          exact gr_ireturn dX9_value_47 rfl (Nat.le_refl _) (Nat.le_refl _) (Or.inr ⟨by unfold cdP; rw [ltR_lt hj (by omega)]; rfl, ⟨va, rfl⟩, some g, hq, Or.inl ⟨Or.inr ⟨g, rfl, by omega⟩, rfl⟩⟩)
    · refine gr_iconst (v := nI 1) dX9_value_12 rfl ?_
      refine gr_goto 17 dX9_value_13 (by decide) ?_
      refine gr_putf dX9_value_17 cls_X9 0 (by decide) fl_X9_7 rfl rfl rfl (Nat.le_of_ble_eq_true rfl) (md_0 hA) ?_
      rw [md_s0 hA]
      refine gr_aload_n dX9_value_20 rfl ?_
      refine gr_getf dX9_value_21 cls_X9 0 (by decide) fl_X9_7 (md_0 hA) rfl ?_
      refine gr_ifeq 29 dX9_value_24 (by decide) (fun z => absurd (show nI 1 = (0 : Int32) from z) (by decide)) (fun _ => ?_)
      refine gr_iconst (v := nI 0) dX9_value_27 rfl ?_
      have hc : cdP 301 (nI j) = 1 := by unfold cdP; rw [ltR_ge hj (by omega)]; rfl
      exact gr_ireturn dX9_value_28 rfl (Nat.le_refl _) (Nat.le_refl _) (Or.inl ⟨hc, rfl, _, rfl⟩)

set_option maxHeartbeats 4000000 in
set_option maxRecDepth 100000 in
theorem c_sg_loop (l : Launch) (E : ga_E) (d : Nat) (h : ga_H) (A : Nat → Nat) (hA : ga_inj A 16) (s : Nat → Int32) (fa si sr pu va ro pa ba ma ti ta im sh un : Nat → zp) (pv : Nat → Option Nat) (o : Nat) (ho : s 1 = nI o) (ho4 : o ≤ 4) (nr : Nat) (rt : Nat → zp) (hnr : nr ≤ 6) (hinc : Inc nr rt) (g : Nat) (hg : g ≤ o) (hhas : ∀ y, Has nr rt y ↔ phor (FF fa g) y 7 0 = 0) (k : Nat) (hk : k < 2 ^ 31) (PP : Option Value → ga_H → Prop) (hPP : PP (some (.int (roAt nr rt (nI k)))) (mdH E h A (va_up s 0 (nI 0)) fa si sr pu va ro pa ba ma ti ta im sh pv un)) : ∀ (g0 x c : Nat), x + g0 = 32003 → c ≤ nr → c ≤ k → (∀ i, i < c → (rt i).val < x) → (∀ i, c ≤ i → i < nr → x ≤ (rt i).val) → ga_G l E mX9_singular (ga_Rm (d + 1) 0 0) (ga_Z E PP 0 0) 15 [some (.ref (A 0)), some (.int (nI k)), some (.int (nI g)), some (.int (nI c)), some (.int (nI x))] [] (mdH E h A (va_up s 0 (nI 0)) fa si sr pu va ro pa ba ma ti ta im sh pv un) 0 0 := by
  intro g0
  induction g0 with
  | zero =>
    intro x c hx hcn hck hlo hhi
    refine gr_iload dX9_singular_15 rfl (gr_sipush (v := nI 32003) dX9_singular_17 (by decide) ?_)
    refine gr_icmpgeN 67 dX9_singular_20 (by decide) (by omega) (by omega) (fun _ => ?_) (fun z => absurd z (by omega))
    refine gr_iconst (v := -1) dX9_singular_67 (by decide) ?_
    have hnc : nr ≤ c := by
      by_cases z : nr ≤ c
      · exact z
      · have := hhi c (Nat.le_refl _) (by omega); have := zl (rt c); omega
    have hp := hPP
    unfold roAt at hp
    rw [if_neg (nI_pos hk), if_pos (nI_le (by omega) hk)] at hp
    exact gr_ireturn dX9_singular_68 rfl (Nat.le_refl _) (Nat.le_refl _) hp
  | succ g0 ih =>
    intro x c hx hcn hck hlo hhi
    refine gr_iload dX9_singular_15 rfl (gr_sipush (v := nI 32003) dX9_singular_17 (by decide) ?_)
    refine gr_icmpgeN 67 dX9_singular_20 (by decide) (by omega) (by omega) (fun z => absurd z (by omega)) (fun _ => ?_)
    refine gr_iload_n dX9_singular_23 rfl (gr_ifltN dX9_singular_24 67 (by decide) (by omega) ?_)
    refine gr_iload_n dX9_singular_27 rfl (gr_ifltN dX9_singular_28 67 (by decide) (by omega) ?_)
    refine gr_aload_n dX9_singular_31 rfl ?_
    refine gr_aload_n dX9_singular_32 rfl ?_
    refine gr_getf dX9_singular_33 cls_X9 2 (by decide) fl_X9_13 (md_0 hA) rfl ?_
    refine gr_bipush (v := nI 7) dX9_singular_36 (by decide) ?_
    refine gr_iload_n dX9_singular_38 rfl ?_
    refine gr_imulN dX9_singular_39 ?_
    refine gr_bipush (v := nI 7) dX9_singular_40 (by decide) ?_
    refine gr_iload dX9_singular_42 rfl ?_
    refine gr_callV dX9_singular_44 (c_mat l E d _ (A 0) (A 1) (7 * g) 7 35 x _ (md_1 hA) (by omega) (by omega) (by omega)) ysX9_at ⟨ml_X9_121, im_X9_at, sl_X9_at⟩ (md_0 hA) (show vwCl[9]? = some (RX9, TX9, _) from rfl) rfl rfl (Nat.le_of_ble_eq_true rfl) ⟨(Nat.le_refl _), (Nat.le_refl _)⟩ ⟨(Nat.le_refl _), (Nat.le_refl _)⟩ (fun r0 h1 hp9 => ?_)
    obtain ⟨e1, rfl⟩ := hp9
    subst h1
    refine gr_ifneN 61 dX9_singular_47 (by decide) (by have := zl (phor (FF fa g) (zo x) 7 0); omega) (fun c_47 => ?_) (fun c_47 => ?_)
    · refine gr_iinc (v := nI (_ + 1)) dX9_singular_61 rfl (nI_1 _) (by decide) rfl ?_
      refine gr_goto 15 dX9_singular_64 (by decide) ?_
      first
        | (refine ih (x + 1) (c + 1) (by omega) (by omega) (by omega) (fun i hi => ?_) (fun i h1 h2 => ?_)
           · by_cases z : i = c
             · rw [z, hcx.2, hxv]; omega
             · have := hlo i (by omega); omega
           · have := hinc c i (by omega) h2; rw [hcx.2, hxv] at this; omega)
        | (refine ih (x + 1) c (by omega) hcn hck (fun i hi => ?_) (fun i h1 h2 => ?_)
           · have := hlo i hi; omega
           · have h3 := hhi i h1 h2
             by_cases z : (rt i).val = x
             · refine absurd ((hhas (zo x)).mp ⟨i, h2, Fin.ext (z.trans (Nat.mod_eq_of_lt (by omega)).symm)⟩) (fun w => c_47 (by rw [w]; rfl))
             · omega)
    · have hroot := (hhas (zo x)).mpr (Fin.ext c_47)
      have hxv : (zo x).val = x := Nat.mod_eq_of_lt (by omega)
      have hcx : c < nr ∧ rt c = zo x := by
        obtain ⟨i, hi, ei⟩ := hroot
        have h1 : c ≤ i := by
          by_cases z : c ≤ i
          · exact z
          · have := hlo i (by omega); rw [ei, hxv] at this; omega
        refine ⟨by omega, ?_⟩
        by_cases z : c = i
        · rw [z]; exact ei
        · have h2 := hinc c i (by omega) hi
          have h3 := hhi c (Nat.le_refl _) (by omega)
          rw [ei, hxv] at h2
          omega
      refine gr_iload_n dX9_singular_50 rfl ?_
      refine gr_iload_n dX9_singular_51 rfl ?_
      refine gr_icmpneN 58 dX9_singular_52 (by decide) (by omega) (by omega) (fun c_52 => ?_) (fun c_52 => ?_)
      · refine gr_iinc (v := nI (_ + 1)) dX9_singular_58 rfl (nI_1 _) (by decide) rfl ?_
        refine gr_iinc (v := nI (_ + 1)) dX9_singular_61 rfl (nI_1 _) (by decide) rfl ?_
        refine gr_goto 15 dX9_singular_64 (by decide) ?_
        first
          | (refine ih (x + 1) (c + 1) (by omega) (by omega) (by omega) (fun i hi => ?_) (fun i h1 h2 => ?_)
             · by_cases z : i = c
               · rw [z, hcx.2, hxv]; omega
               · have := hlo i (by omega); omega
             · have := hinc c i (by omega) h2; rw [hcx.2, hxv] at this; omega)
          | (refine ih (x + 1) c (by omega) hcn hck (fun i hi => ?_) (fun i h1 h2 => ?_)
             · have := hlo i hi; omega
             · have h3 := hhi i h1 h2
               by_cases z : (rt i).val = x
               · refine absurd ((hhas (zo x)).mp ⟨i, h2, Fin.ext (z.trans (Nat.mod_eq_of_lt (by omega)).symm)⟩) (fun w => c_47 (by rw [w]; rfl))
               · omega)
      · refine gr_iload dX9_singular_55 rfl ?_
        have hp := hPP
        unfold roAt at hp
        rw [if_neg (nI_pos hk), nI_clamp hk, if_neg (nI_ge (by omega) (by omega)), ← c_52, hcx.2, hxv] at hp
        exact gr_ireturn dX9_singular_57 rfl (Nat.le_refl _) (Nat.le_refl _) hp

set_option maxHeartbeats 4000000 in
set_option maxRecDepth 100000 in
theorem c_msingular (l : Launch) (E : ga_E) (d : Nat) (h : ga_H) (A : Nat → Nat) (hA : ga_inj A 16) (s : Nat → Int32) (fa si sr pu va ro pa ba ma ti ta im sh un : Nat → zp) (pv : Nat → Option Nat) (o : Nat) (ho : s 1 = nI o) (ho4 : o ≤ 4) (nr : Nat) (rt : Nat → zp) (hnr : nr ≤ 6) (hinc : Inc nr rt) (hhas : ∀ g, GrM fa o (some g) → ∀ y, Has nr rt y ↔ phor (FF fa g) y 7 0 = 0) (k : Int32) : ga_Ok l E (d + 1) mX9_singular [.ref (A 0), .int k] (mdH E h A s fa si sr pu va ro pa ba ma ti ta im sh pv un) 0 0 (fun r0 h' => h' = mdH E h A (va_up s 0 (nI 0)) fa si sr pu va ro pa ba ma ti ta im sh pv un ∧ ∃ q, GrM fa o q ∧ (q = none ∧ r0 = some (.int (-1)) ∨ ∃ g, q = some g ∧ r0 = some (.int (roAt nr rt k)))) := by
  refine ga_Ok.of 3 _ (by decide) rfl (Nat.le_of_ble_eq_true rfl) rfl ?_
  refine gr_aload_n dX9_singular_0 rfl ?_
  refine gr_iconst (v := nI 0) dX9_singular_1 rfl ?_
  refine gr_putf dX9_singular_2 cls_X9 0 (by decide) fl_X9_7 rfl rfl rfl (Nat.le_of_ble_eq_true rfl) (md_0 hA) ?_
  rw [md_s0 hA]
  refine gr_aload_n dX9_singular_5 rfl ?_
  refine gr_callV dX9_singular_6 (c_greatest l E d h A hA (va_up s 0 (nI 0)) fa si sr pu va ro pa ba ma ti ta im sh un pv o ho ho4) ysX9_greatest ⟨ml_X9_99, im_X9_greatest, sl_X9_greatest⟩ (md_0 hA) (show vwCl[9]? = some (RX9, TX9, _) from rfl) rfl rfl (Nat.le_of_ble_eq_true rfl) ⟨(Nat.le_refl _), (Nat.le_refl _)⟩ ⟨(Nat.le_refl _), (Nat.le_refl _)⟩ (fun r0 h1 hp9 => ?_)
  obtain ⟨rfl, q, rfl, hq⟩ := hp9
  refine gr_istore_n dX9_singular_9 (by decide) rfl ?_
  refine gr_iconst (v := nI 0) dX9_singular_10 rfl ?_
  refine gr_istore_n dX9_singular_11 (by decide) rfl ?_
  refine gr_iconst (v := nI 0) dX9_singular_12 rfl ?_
  refine gr_istore dX9_singular_13 (by decide) rfl ?_
  rcases q with _ | g
  · refine gr_iload dX9_singular_15 rfl (gr_sipush (v := nI 32003) dX9_singular_17 (by decide) ?_)
    refine gr_icmpgeN 67 dX9_singular_20 (by decide) (by omega) (by omega) (fun z => absurd z (by omega)) (fun _ => ?_)
    refine gr_iload_n dX9_singular_23 rfl (gr_iflt 67 dX9_singular_24 (by decide) (fun _ => ?_) (fun z => absurd (by decide) z))
    refine gr_iconst (v := -1) dX9_singular_67 (by decide) ?_
    exact gr_ireturn dX9_singular_68 rfl (Nat.le_refl _) (Nat.le_refl _) ⟨rfl, none, hq, Or.inl ⟨rfl, rfl⟩⟩
  · have hgo : g ≤ o := by
      rcases hq with ⟨z, -⟩ | ⟨i, z, hi, -⟩
      · cases z
      · cases z; exact hi
    by_cases c_k : k < 0
    · refine gr_iload dX9_singular_15 rfl (gr_sipush (v := nI 32003) dX9_singular_17 (by decide) ?_)
      refine gr_icmpgeN 67 dX9_singular_20 (by decide) (by omega) (by omega) (fun z => absurd z (by omega)) (fun _ => ?_)
      refine gr_iload_n dX9_singular_23 rfl (gr_top (congrArg Value.int (show optI (some g) = nI g from rfl)) (gr_ifltN dX9_singular_24 67 (by decide) (by omega) ?_))
      refine gr_iload_n dX9_singular_27 rfl (gr_iflt 67 dX9_singular_28 (by decide) (fun _ => ?_) (fun z => absurd c_k z))
      refine gr_iconst (v := -1) dX9_singular_67 (by decide) ?_
      exact gr_ireturn dX9_singular_68 rfl (Nat.le_refl _) (Nat.le_refl _) ⟨rfl, some g, hq, Or.inr ⟨g, rfl, by unfold roAt; rw [if_pos c_k]⟩⟩
    · obtain ⟨j, hj, rfl⟩ := nI_of c_k
      have hend := c_sg_loop l E d h A hA s fa si sr pu va ro pa ba ma ti ta im sh un pv o ho ho4 nr rt hnr hinc g hgo (hhas g hq) j hj (fun r0 h' => h' = mdH E h A (va_up s 0 (nI 0)) fa si sr pu va ro pa ba ma ti ta im sh pv un ∧ ∃ q, GrM fa o q ∧ (q = none ∧ r0 = some (.int (-1)) ∨ ∃ g, q = some g ∧ r0 = some (.int (roAt nr rt (nI j))))) ⟨rfl, some g, hq, Or.inr ⟨g, rfl, rfl⟩⟩ 32003 0 0 (by omega) (by omega) (by omega) (fun i hi => absurd hi (by omega)) (fun i _ _ => by omega)
      exact hend
