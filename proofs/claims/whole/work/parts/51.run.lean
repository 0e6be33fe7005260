/-! The reference: run -/
def rM (fa si : Nat → zp) (o : Nat) (z : zp) (k j : Nat) : zp := if j < 13 then apE (mono 1 j) z fa o k else if k < 11 then si k else 0
theorem TbF_rM {fa si T : Nat → zp} {o : Nat} {z : zp} (h : TbF fa si o z T) : ∀ i, i < 19 → ∀ j, j < 14 → tM T i j = rM fa si o z i j := fun i hi j hj => by
  unfold tM rM
  by_cases c : j < 13
  · rw [if_pos c, if_pos c, h.1 i hi _ (by omega), show 12 - (12 - j) = j by omega]
  · rw [if_neg c, if_neg c]; exact h.2 i hi
theorem lN_eq0 {a : Nat} (ha : a < 2 ^ 31) : lN a = lN 0 ↔ a = 0 := ⟨fun h => by
  by_cases c : a = 0
  · exact c
  · exact absurd (by rw [h]; exact Int64.le_refl _) (lN_nge (a := 0) (b := a) (by omega) ha), fun h => by rw [h]⟩
abbrev tpR (fa : Nat → zp) (o t : Nat) (y : zp) : Prop := phor (fun i => fa (7 * i + t)) y (o + 1) 0 = 0
def runS (s : Nat → Int32) (o : Nat) (S5 : Int32) (n : Nat) (mt : Bool) : Prop := s 0 = nI 0 ∧ s 1 = nI o ∧ s 5 = S5 ∧ s 9 = nI n ∧ s 11 = bI mt

set_option maxHeartbeats 4000000 in
set_option maxRecDepth 100000 in
theorem c_run_hor (l : Launch) (E : ga_E) (d : Nat) (h : ga_H) (A : Nat → Nat) (hA : ga_inj A 16) (s : Nat → Int32) (fa si sr pu va ro pa ba ma ti ta im sh un : Nat → zp) (pv : Nat → Option Nat) (o : Nat) (ho : s 1 = nI o) (ho4 : o ≤ 4) (t : Nat) (ht7 : t < 7) (r : Nat) (PP : Option Value → ga_H → Prop) (z : Nat) (hz : z < 32003) (res : zp) (kx : ∀ x6 : Option Value, ga_G l E mX9_run (ga_Rm (d + 3) 0 0) (ga_Z E PP 0 0) 201 [some (.ref (A 0)), some (.int (nI r)), some (.int (nI t)), some (.int (nI z)), some (.long (lN res.val)), none, x6] [] (mdH E h A s fa si sr pu va ro pa ba ma ti ta im sh pv un) 0 0) : ∀ (k : Nat), k ≤ o + 1 → ∀ q : zp, phor (fun i => fa (7 * i + t)) (zo z) k q = res → ga_G l E mX9_run (ga_Rm (d + 3) 0 0) (ga_Z E PP 0 0) 165 [some (.ref (A 0)), some (.int (nI r)), some (.int (nI t)), some (.int (nI z)), some (.long (lN q.val)), none, some (.int (nI k - nI 1))] [] (mdH E h A s fa si sr pu va ro pa ba ma ti ta im sh pv un) 0 0 := by
  intro k
  induction k with
  | zero =>
    intro hk q hres
    refine gr_iload dX9_run_165 rfl (gr_iflt 201 dX9_run_167 (by decide) (fun _ => ?_) (fun z => absurd ((dn_neg (by decide)).mpr rfl) z))
    rw [show q = res from hres]
    exact kx _
  | succ i ih =>
    intro hk q hres
    rw [dn_top]
    refine gr_iload dX9_run_165 rfl (gr_ifltN dX9_run_167 201 (by decide) (by omega) ?_)
    refine gr_lload dX9_run_170 rfl ?_
    refine gr_iload_n dX9_run_172 rfl ?_
    refine gr_i2lN dX9_run_173 (by omega) ?_
    refine gr_lmulN dX9_run_174 ?_
    refine gr_aload_n dX9_run_175 rfl ?_
    refine gr_getf dX9_run_176 cls_X9 2 (by decide) fl_X9_13 (md_0 hA) rfl ?_
    refine gr_bipush (v := nI 7) dX9_run_179 (by decide) ?_
    refine gr_iload dX9_run_181 rfl ?_
    refine gr_imulN dX9_run_183 ?_
    refine gr_iload_n dX9_run_184 rfl ?_
    refine gr_iaddN dX9_run_185 ?_
    refine gr_ialoadF dX9_run_186 (md_1 hA) (by omega) (by decide) ?_
    refine gr_i2lN dX9_run_187 (by have := zl (fa (7 * i + t)); omega) ?_
    refine gr_laddN dX9_run_188 ?_
    refine gr_remL (x := q * zo z + fa (7 * i + t)) dX9_run_189 kl_X9_78 dX9_run_192 (by have := zl (fa (7 * i + t)); have h8 : q.val * z ≤ 32003 * 60000 := Nat.mul_le_mul (Nat.le_of_lt (zl q)) (by omega); omega) (zo_sx _ _ _) ?_
    refine gr_lstore dX9_run_193 (by decide) rfl ?_
    refine gr_iinc (v := nI i - nI 1) dX9_run_195 rfl (dn_step i) (by decide) rfl ?_
    refine gr_goto 165 dX9_run_198 (by decide) ?_
    exact ih (by omega) _ hres

theorem zo_small {n : Nat} (h : n < 32003) : (zo n).val = n := Nat.mod_eq_of_lt h
theorem ech_rng {M : Nat → Nat → zp} {T : Nat → zp} {r : Nat} {pv : Nat → Option Nat} (h : Ech M (tM T) (ltB r) (rvp pv)) : ∀ j i, j < 13 → pv j = some i → i < 19 := fun j i hj e => (h.2.2.1 (12 - j) (by omega) i (by unfold rvp; rw [show 12 - (12 - j) = j by omega]; exact e)).1

set_option maxHeartbeats 4000000 in
set_option maxRecDepth 100000 in
theorem c_run_z (l : Launch) (E : ga_E) (d : Nat) (h : ga_H) (A : Nat → Nat) (hA : ga_inj A 16) (fa si sr pu va ro pa : Nat → zp) (o : Nat) (ho4 : o ≤ 4) (t : Nat) (ht7 : t < 7) (r n : Nat) (mt : Bool) (S5 : Int32) (nr : Nat) (rt : Nat → zp) (hnr : nr ≤ 6) (hr : Inc nr rt) (hR : ∀ y, Has nr rt y ↔ tpR fa o t y) (PP : Option Value → ga_H → Prop) (hPP : ∀ (s : Nat → Int32) (ba ma ti ta im sh : Nat → zp) (pv : Nat → Option Nat) (un : Nat → zp) (pw : Nat), runS s o S5 n mt → s 8 = nI 1 → s 13 = nI pw → pw ≤ nr → ResB (rM fa si o) (tpR fa o t) pw ba (fun k => (ma k).val) (fun k m => ti (169 * k + m)) → PP (some (.int (nI 0))) (mdH E h A s fa si sr pu va ro pa ba ma ti ta im sh pv un)) : ∀ (g0 z c pw : Nat) (s : Nat → Int32) (ba ma ti ta im sh : Nat → zp) (pv : Nat → Option Nat) (un : Nat → zp) (x4 x5 x6 : Option Value), z + g0 = 32003 → 1 ≤ z → BI (rM fa si o) (tpR fa o t) nr rt z c pw ba (fun k => (ma k).val) (fun k m => ti (169 * k + m)) → runS s o S5 n mt → s 13 = nI pw → ga_G l E mX9_run (ga_Rm (d + 3) 0 0) (ga_Z E PP 0 0) 149 [some (.ref (A 0)), some (.int (nI r)), some (.int (nI t)), some (.int (nI z)), x4, x5, x6] [] (mdH E h A s fa si sr pu va ro pa ba ma ti ta im sh pv un) 0 0 := by
  intro g0
  induction g0 with
  | zero =>
    intro z c pw s ba ma ti ta im sh pv un x4 x5 x6 hz hz1 hB hs hs13
    refine gr_iload_n dX9_run_149 rfl (gr_sipush (v := nI 32003) dX9_run_150 (by decide) ?_)
    refine gr_icmpgeN 278 dX9_run_153 (by decide) (by omega) (by omega) (fun _ => ?_) (fun z => absurd z (by omega))
    refine gr_aload_n dX9_run_278 rfl (gr_iconst (v := nI 1) dX9_run_279 rfl (gr_putf dX9_run_280 cls_X9 8 (by decide) fl_X9_32 rfl rfl rfl (Nat.le_of_ble_eq_true rfl) (md_0 hA) ?_))
    rw [md_s8 hA]
    refine gr_iconst (v := nI 0) dX9_run_283 rfl ?_
    rw [show z = 32003 by omega] at hB
    exact gr_ireturn dX9_run_284 rfl (Nat.le_refl _) (Nat.le_refl _) (hPP _ ba ma ti ta im sh pv un pw hs rfl hs13 (Nat.le_trans hB.2.1 hB.1) (BI_end hB))
  | succ g0 ih =>
    intro z c pw s ba ma ti ta im sh pv un x4 x5 x6 hz hz1 hB hs hs13
    have hpw : pw ≤ 6 := Nat.le_trans (Nat.le_trans hB.2.1 hB.1) hnr
    refine gr_iload_n dX9_run_149 rfl (gr_sipush (v := nI 32003) dX9_run_150 (by decide) ?_)
    refine gr_icmpgeN 278 dX9_run_153 (by decide) (by omega) (by omega) (fun z => absurd z (by omega)) (fun _ => ?_)
    refine gr_lconst (v := lN (0 : zp).val) dX9_run_156 rfl ?_
    refine gr_lstore dX9_run_157 (by decide) rfl ?_
    refine gr_aload_n dX9_run_159 rfl ?_
    refine gr_getf dX9_run_160 cls_X9 1 (by decide) fl_X9_75 (md_0 hA) rfl (gr_top (congrArg Value.int (hs.2.1.trans (dn_top o).symm)) ?_)
    refine gr_istore dX9_run_163 (by decide) rfl ?_
    refine c_run_hor l E d h A hA s fa si sr pu va ro pa ba ma ti ta im sh un pv o hs.2.1 ho4 t ht7 r PP z (by omega) _ (fun y6 => ?_) (o + 1) (Nat.le_refl _) 0 rfl
    have hzv : (zo z).val = z := Nat.mod_eq_of_lt (by omega)
    have hv := zl (phor (fun i => fa (7 * i + t)) (zo z) (o + 1) 0)
    refine gr_lload dX9_run_201 rfl (gr_lconst (v := lN 0) dX9_run_203 rfl (gr_lcmp dX9_run_204 ?_))
    refine gr_ifne 272 dX9_run_205 (by decide) (fun c_205 => ?_) (fun c_205 => ?_)
    · refine gr_iinc (v := nI (_ + 1)) dX9_run_272 rfl (nI_1 _) (by decide) rfl ?_
      refine gr_goto 149 dX9_run_275 (by decide) ?_
      refine ih (z + 1) c pw s ba ma ti ta im sh pv un _ _ _ (by omega) (by omega) (BI_none hB hr hR (by omega) (fun w => c_205 ((lg_cmp_eq _ _).mpr ?_))) hs hs13
      have w : phor (fun i => fa (7 * i + t)) (zo z) (o + 1) 0 = 0 := w
      rw [w]; rfl
    · have hroot : tpR fa o t (zo z) := Fin.ext ((lN_eq0 (by omega)).mp ((lg_cmp_eq _ _).mp (Classical.not_not.mp (fun w => w c_205))))
      refine gr_aload_n dX9_run_208 rfl ?_
      refine gr_iload_n dX9_run_209 rfl (gr_top (congrArg Value.int (congrArg nI hzv.symm)) ?_)
      refine gr_callV dX9_run_210 (c_mfill l E d h A hA s fa si sr pu va ro pa ba ma ti ta im sh un pv (zo z) o hs.2.1 ho4) ysX9_fill ⟨ml_X9_103, im_X9_fill, sl_X9_fill⟩ (md_0 hA) (show vwCl[9]? = some (RX9, TX9, _) from rfl) rfl rfl (Nat.le_of_ble_eq_true rfl) ⟨(Nat.le_refl _), (Nat.le_refl _)⟩ ⟨(Nat.le_refl _), (Nat.le_refl _)⟩ (fun r0 h1 hp9 => ?_)
      obtain ⟨T, im2, sh2, un2, hTb, rfl, rfl⟩ := hp9
      refine gr_aload_n dX9_run_213 rfl ?_
      refine gr_callV dX9_run_214 (c_clears l E (d + 1) h A hA s fa si sr pu va ro pa ba ma ti T im2 sh2 un2 pv (rM fa si o (zo z)) (TbF_rM hTb)) ysX9_clears ⟨ml_X9_107, im_X9_clears, sl_X9_clears⟩ (md_0 hA) (show vwCl[9]? = some (RX9, TX9, _) from rfl) rfl rfl (Nat.le_of_ble_eq_true rfl) ⟨(Nat.le_refl _), (Nat.le_refl _)⟩ ⟨(Nat.le_refl _), (Nat.le_refl _)⟩ (fun r0 h1 hp9 => ?_)
      obtain ⟨T2, pv2, r2, hr2, hE, rfl, rfl⟩ := hp9
      refine gr_pop dX9_run_217 rfl ?_
      refine gr_aload_n dX9_run_218 rfl ?_
      refine gr_aload_n dX9_run_219 rfl ?_
      refine gr_getf dX9_run_220 cls_X9 16 (by decide) fl_X9_57 (md_0 hA) rfl ?_
      refine gr_sipush (v := nI 169) dX9_run_223 (by decide) ?_
      refine gr_aload_n dX9_run_226 rfl ?_
      refine gr_getf dX9_run_227 cls_X9 13 (by decide) fl_X9_48 (md_0 hA) rfl (gr_top (congrArg Value.int (show _ = nI pw from hs13)) ?_)
      refine gr_imulN dX9_run_230 ?_
      refine gr_callV dX9_run_231 (c_answers l E (d + 2) (fun v => mdH E h A s fa si sr pu va ro pa ba ma v T2 im2 sh2 pv2 un2) A s T2 pv2 (A 10) 1352 (169 * pw) (fun _ => md_0 hA) (fun _ => md_11 hA) (fun _ => md_14 hA) (fun _ => md_10 hA) (fun _ _ => md_w10 hA _) (by omega) (by omega) (ech_rng hE) ti) ysX9_answers ⟨ml_X9_110, im_X9_answers, sl_X9_answers⟩ (md_0 hA) (show vwCl[9]? = some (RX9, TX9, _) from rfl) rfl rfl (Nat.le_of_ble_eq_true rfl) ⟨(Nat.le_refl _), (Nat.le_refl _)⟩ ⟨(Nat.le_refl _), (Nat.le_refl _)⟩ (fun r0 h1 hp9 => ?_)
      obtain ⟨ti2, hO, hK, rfl, rfl⟩ := hp9
      refine gr_istore dX9_run_234 (by decide) rfl ?_
      refine gr_iload dX9_run_236 rfl ?_
      have hc13 := cnt_le (rvp pv2) 13
      refine gr_ifleN 272 dX9_run_238 (by decide) (by omega) (fun c_238 => ?_) (fun c_238 => ?_)
      · refine gr_iinc (v := nI (_ + 1)) dX9_run_272 rfl (nI_1 _) (by decide) rfl ?_
        refine gr_goto 149 dX9_run_275 (by decide) ?_
        refine ih (z + 1) (c + 1) pw s ba ma ti2 T2 im2 sh2 pv2 un2 _ _ _ (by omega) (by omega) (BI_skip hB hr hR (by omega) hroot (Sm.not hE c_238) (fun k hk m hm => hK _ (by omega))) hs hs13
      · refine gr_aload_n dX9_run_241 rfl ?_
        refine gr_getf dX9_run_242 cls_X9 14 (by decide) fl_X9_51 (md_0 hA) rfl ?_
        refine gr_aload_n dX9_run_245 rfl ?_
        refine gr_getf dX9_run_246 cls_X9 13 (by decide) fl_X9_48 (md_0 hA) rfl (gr_top (congrArg Value.int (show _ = nI pw from hs13)) ?_)
        refine gr_iload_n dX9_run_249 rfl (gr_top (congrArg Value.int (congrArg nI hzv.symm)) ?_)
        refine gr_iastoreF dX9_run_250 (md_8 hA) (by omega) (by decide) ?_
        rw [md_w8 hA]
        refine gr_aload_n dX9_run_251 rfl ?_
        refine gr_getf dX9_run_252 cls_X9 15 (by decide) fl_X9_54 (md_0 hA) rfl ?_
        refine gr_aload_n dX9_run_255 rfl ?_
        refine gr_getf dX9_run_256 cls_X9 13 (by decide) fl_X9_48 (md_0 hA) rfl (gr_top (congrArg Value.int (show _ = nI pw from hs13)) ?_)
        refine gr_iload dX9_run_259 rfl (gr_top (congrArg Value.int (congrArg nI (zo_small (by omega)).symm)) ?_)
        refine gr_iastoreF dX9_run_261 (md_9 hA) (by omega) (by decide) ?_
        rw [md_w9 hA]
        refine gr_aload_n dX9_run_262 rfl ?_
        refine gr_dup dX9_run_263 rfl ?_
        refine gr_getf dX9_run_264 cls_X9 13 (by decide) fl_X9_48 (md_0 hA) rfl (gr_top (congrArg Value.int (show _ = nI pw from hs13)) ?_)
        refine gr_iconst (v := nI 1) dX9_run_267 rfl ?_
        refine gr_iaddN dX9_run_268 ?_
        refine gr_putf dX9_run_269 cls_X9 13 (by decide) fl_X9_48 rfl rfl rfl (Nat.le_of_ble_eq_true rfl) (md_0 hA) ?_
        rw [md_s13 hA]
        refine gr_iinc (v := nI (_ + 1)) dX9_run_272 rfl (nI_1 _) (by decide) rfl ?_
        refine gr_goto 149 dX9_run_275 (by decide) ?_
        refine ih (z + 1) (c + 1) (pw + 1) _ _ _ ti2 T2 im2 sh2 pv2 un2 _ _ _ (by omega) (by omega) (BI_take hB hr hR (by omega) (by omega) hroot ⟨_, _, _, hE, by omega⟩ (fun k hk => ⟨va_un (by omega), by show (va_up ma pw _ k).val = _; rw [va_un (by omega)], fun m hm => hK _ (by omega)⟩) va_us ⟨_, _, _, hE, ?_, fun f hf hp j hj => hO f hf hp j hj⟩) hs rfl
        show (va_up ma pw (zo (cnt (rvp pv2) 13)) pw).val = _
        rw [va_us]; exact zo_small (by omega)
