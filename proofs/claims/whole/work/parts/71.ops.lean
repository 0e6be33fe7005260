/-! The law's calls, one by one -/
abbrev mL_law : ga_M := (yL_law, cL_law, 7, (some .boolean), [])
theorem lcmp_same {x y : Int64} (h : x = y) : lg_cmp x y = nI 0 := by
  subst h
  unfold lg_cmp
  rw [if_neg (fun z => absurd z Int64.lt_irrefl), if_pos rfl]
  rfl
theorem mdC_0 (E : ga_E) (A : Nat → Nat) (s : Nat → Int32) (fa si sr pu va ro pm bm ma ti ta im sh un : Nat → zp) (pv : Nat → Option Nat) : mdC E A s fa si sr pu va ro pm bm ma ti ta im sh pv un 0 = ga_o 9 (mdF A s) := rfl

set_option maxHeartbeats 4000000 in
set_option maxRecDepth 100000 in
theorem op_polynomials (l : Launch) (hl0 : l.stackTraces = false) (E : ga_E) (b L : Nat) (xs : Nat → Int32) (hbE : b < ga_N0 E) (hL : L ≤ 3585) (Z A : Nat → Nat) (q : Nat) (hD : Dj Z A q) (ZZ : List Frame → Array Value → State → State → Prop) (c md : Nat → va_E) (w : Nat → Int64) (hR : RLa E Z A c md) (i : Nat) (hi : i + 7 ≤ L) (x5 x6 : Option Value) (cells slots : Nat) (hcs : cells + 3 ≤ 603072 ∧ slots + 18 ≤ 7165560) (kk : ∀ (c' md' : Nat → va_E) (w' : Nat → Int64) (x5 x6 : Option Value), RLa E Z A c' md' → ga_G l E mL_law room_1 (Zs b L xs ZZ) 1196 [some (.ref b), some (.ref (Z 0)), some (.ref (A 0)), some (.ref q), some (.int (nI i)), x5, x6] [] (HP Z c' A md' q (ga_j E 1 w')) (cells + 3) (slots + 18)) : ga_G l E mL_law room_1 (Zs b L xs ZZ) 461 [some (.ref b), some (.ref (Z 0)), some (.ref (A 0)), some (.ref q), some (.int (nI i)), x5, x6] [] (HP Z c A md q (ga_j E 1 w)) cells slots := by
  obtain ⟨o, F, S, tr, zk, kn, mt, bc, n0, rv, pa, ba, bs, bv, sn, kv, y, zn, zf, cn, cf, s, fa, si, sr, pu, va, ro, pm, bm, ma, ti, ta, im, sh, un, pv, hI, rfl, hS⟩ := hR
  have ho := hS.2.1
  have ho4 := hS.1.1
  have hs5 := hS.2.2.2.2.1
  have hV := hS.2.2.2.2.2.1
  have hs8 := hS.2.2.2.2.2.2.1
  have hzk := hS.2.2.2.2.2.2.2.1
  have hnb := hS.2.2.2.2.2.2.2.2.1
  obtain ⟨nm, mm, pw, hs9, hs11, hs13, hK⟩ := hS.opened
  refine gr_aload_n dL_law_461 rfl ?_
  refine gr_aload_n dL_law_462 rfl ?_
  refine gr_h (hp_c hD) ?_
  refine gr_callSW (n := 2) dL_law_463 (h_polynomials l E 10 _ (Z 0) q w _ 1 6 _ _ (fun r0 h' => ∃ (k : Nat) (c' : Nat → va_E) (w' : Nat → Int64), k < 4 ∧ r0 = some (.int (nI k)) ∧ h' = HP Z c' A (mdC E A s fa si sr pu va ro pm bm ma ti ta im sh pv un) q (ga_j E 1 w') ∧ (c' = c ∧ k = cdK kn ∧ (k = 0 → w' 0 = Int32.toInt64 (nI n0)))) (co_ra hD.1 hI) (c_polynomials l hl0 E 2 _ Z hD.1 o F S tr zk kn mt bc n0 rv pa ba bs bv sn kv y zn zf cn cf c hI ) (fun r h' hp => by obtain ⟨e, rfl, rfl⟩ := hp; exact ⟨_, rfl, hp_cq hD, 0, c, _, by omega, rfl, hp_cw hD, rfl, e.symm, fun _ => rfl⟩) (fun Y h' hp => by obtain ⟨rfl, e, rfl⟩ := hp; exact ⟨rfl, 1, c, w, by omega, rfl, (hp_c hD).symm, rfl, e.symm, fun z => absurd z (by omega)⟩)) cx_L_polynomials wi_L (by decide +kernel) (by decide) ⟨ml_L_93, sm_L_polynomials⟩ rfl rfl (Nat.le_of_ble_eq_true rfl) ⟨by decide, by decide⟩ ⟨by show _ + 1 ≤ 603072; omega, by show _ + 6 ≤ 7165560; omega⟩ (fun r0 h1 hp => ?_)
  obtain ⟨k, c', w', hk4, rfl, rfl, hQ⟩ := hp
  refine gr_istore dL_law_466 (by decide) rfl ?_
  refine gr_aload_n dL_law_468 rfl ?_
  refine gr_h (hp_m hD) ?_
  refine gr_callV dL_law_469 (c_mpolynomials l E 9 _ A hD.2.1 s fa si sr pu va ro pm bm ma ti ta im sh un pv kn hs8) ysX9_polynomials ⟨ml_L_96, im_X9_polynomials, sl_X9_polynomials⟩ (md_0 hD.2.1) (show vwCl[9]? = some (RX9, TX9, _) from rfl) rfl rfl (Nat.le_of_ble_eq_true rfl) ⟨by decide, by decide⟩ ⟨by show _ + 0 ≤ 603072; omega, by show _ + 0 ≤ 7165560; omega⟩ (fun r0 h1 hp9 => ?_)
  have key : AM E Z A c' q w' k Int32.toInt64 r0 h1 := by
    obtain ⟨rfl, r, rfl, hr⟩ := hp9
    obtain ⟨rfl, rfl, hw⟩ := hQ
    refine ⟨r, (va_up s 0 (nI (cdK kn))), fa, si, sr, pu, va, ro, pm, bm, ma, ti, ta, im, sh, un, pv, rfl, rfl, rfl, fun z => ?_, ⟨_, _, _, _, _, _, _, _, _, _, _, _, _, _, _, _, _, _, _, _, _, _, _, _, _, _, _, _, _, _, _, _, _, _, _, _, _, hI, rfl, hS.t0 _⟩⟩
    rw [hw z, hr z]
    refine congrArg Int32.toInt64 ?_
    rw [(hK (cdK_0 z)).1]; exact hs9.1.symm
  obtain ⟨r, s2, fa2, si2, sr2, pu2, va2, ro2, pm2, bm2, ma2, ti2, ta2, im2, sh2, un2, pv2, rfl, rfl, e0, hv, hR2⟩ := key
  refine gr_istore dL_law_472 (by decide) rfl ?_
  refine gr_aload_n dL_law_474 rfl ?_
  refine gr_callV dL_law_475 (c_thrown l E 10 _ A hD.2.1 s2 fa2 si2 sr2 pu2 va2 ro2 pm2 bm2 ma2 ti2 ta2 im2 sh2 un2 pv2) ysX9_thrown ⟨ml_L_82, im_X9_thrown, sl_X9_thrown⟩ (md_0 hD.2.1) (show vwCl[9]? = some (RX9, TX9, _) from rfl) rfl rfl (Nat.le_of_ble_eq_true rfl) ⟨by decide, by decide⟩ ⟨by show _ + 0 ≤ 603072; omega, by show _ + 0 ≤ 7165560; omega⟩ (fun r9 h9 hp8 => ?_)
  obtain ⟨rfl, rfl⟩ := hp8
  refine gr_h (hp_m hD).symm ?_
  refine gr_iload dL_law_478 rfl ?_
  refine gr_icmpeq 485 dL_law_480 (by decide) (fun _ => ?_) (fun z => absurd e0 z)
  refine gr_iload dL_law_485 rfl ?_
  refine gr_ifneN 502 dL_law_487 (by decide) (by omega) (fun ck => ?_) (fun ck => ?_)
  · exact gr_goto 1196 dL_law_502 (by decide) (gr_wide (by omega) (by omega) (kk _ _ _ _ _ hR2))
  · refine gr_aload_n dL_law_490 rfl ?_
    refine gr_iconst (v := nI 0) dL_law_491 rfl ?_
    refine gr_laload dL_law_492 hp_q (by decide) (by decide) ?_
    refine gr_iload dL_law_493 rfl ?_
    refine gr_i2l dL_law_495 rfl ?_
    refine gr_lcmp dL_law_496 (gr_top (congrArg Value.int (lcmp_same (hv ck))) ?_)
    refine gr_ifeqN 502 dL_law_497 (by decide) (by omega) (fun _ => ?_) (fun z => absurd rfl z)
    exact gr_goto 1196 dL_law_502 (by decide) (gr_wide (by omega) (by omega) (kk _ _ _ _ _ hR2))

set_option maxHeartbeats 4000000 in
set_option maxRecDepth 100000 in
theorem op_meets (l : Launch) (hl0 : l.stackTraces = false) (E : ga_E) (b L : Nat) (xs : Nat → Int32) (hbE : b < ga_N0 E) (hL : L ≤ 3585) (Z A : Nat → Nat) (q : Nat) (hD : Dj Z A q) (ZZ : List Frame → Array Value → State → State → Prop) (c md : Nat → va_E) (w : Nat → Int64) (hR : RLa E Z A c md) (i : Nat) (hi : i + 7 ≤ L) (x5 x6 : Option Value) (cells slots : Nat) (hcs : cells + 3 ≤ 603072 ∧ slots + 18 ≤ 7165560) (kk : ∀ (c' md' : Nat → va_E) (w' : Nat → Int64) (x5 x6 : Option Value), RLa E Z A c' md' → ga_G l E mL_law room_1 (Zs b L xs ZZ) 1196 [some (.ref b), some (.ref (Z 0)), some (.ref (A 0)), some (.ref q), some (.int (nI i)), x5, x6] [] (HP Z c' A md' q (ga_j E 1 w')) (cells + 3) (slots + 18)) : ga_G l E mL_law room_1 (Zs b L xs ZZ) 573 [some (.ref b), some (.ref (Z 0)), some (.ref (A 0)), some (.ref q), some (.int (nI i)), x5, x6] [] (HP Z c A md q (ga_j E 1 w)) cells slots := by
  obtain ⟨o, F, S, tr, zk, kn, mt, bc, n0, rv, pa, ba, bs, bv, sn, kv, y, zn, zf, cn, cf, s, fa, si, sr, pu, va, ro, pm, bm, ma, ti, ta, im, sh, un, pv, hI, rfl, hS⟩ := hR
  have ho := hS.2.1
  have ho4 := hS.1.1
  have hs5 := hS.2.2.2.2.1
  have hV := hS.2.2.2.2.2.1
  have hs8 := hS.2.2.2.2.2.2.1
  have hzk := hS.2.2.2.2.2.2.2.1
  have hnb := hS.2.2.2.2.2.2.2.2.1
  obtain ⟨nm, mm, pw, hs9, hs11, hs13, hK⟩ := hS.opened
  refine gr_aload_n dL_law_573 rfl ?_
  refine gr_aload_n dL_law_574 rfl ?_
  refine gr_h (hp_c hD) ?_
  refine gr_callSW (n := 2) dL_law_575 (h_meets l E 10 _ (Z 0) q w _ 1 6 _ _ (fun r0 h' => ∃ (k : Nat) (c' : Nat → va_E) (w' : Nat → Int64), k < 4 ∧ r0 = some (.int (nI k)) ∧ h' = HP Z c' A (mdC E A s fa si sr pu va ro pm bm ma ti ta im sh pv un) q (ga_j E 1 w') ∧ (c' = c ∧ k = cdK kn ∧ (k = 0 → w' 0 = zJ (bI mt)))) (co_ra hD.1 hI) (c_meets l hl0 E 2 _ Z hD.1 o F S tr zk kn mt bc n0 rv pa ba bs bv sn kv y zn zf cn cf c hI ) (fun r h' hp => by obtain ⟨e, rfl, rfl⟩ := hp; exact ⟨_, rfl, hp_cq hD, 0, c, _, by omega, rfl, hp_cw hD, rfl, e.symm, fun _ => rfl⟩) (fun Y h' hp => by obtain ⟨rfl, e, rfl⟩ := hp; exact ⟨rfl, 1, c, w, by omega, rfl, (hp_c hD).symm, rfl, e.symm, fun z => absurd z (by omega)⟩)) cx_L_meets wi_L (by decide +kernel) (by decide) ⟨ml_L_101, sm_L_meets⟩ rfl rfl (Nat.le_of_ble_eq_true rfl) ⟨by decide, by decide⟩ ⟨by show _ + 1 ≤ 603072; omega, by show _ + 6 ≤ 7165560; omega⟩ (fun r0 h1 hp => ?_)
  obtain ⟨k, c', w', hk4, rfl, rfl, hQ⟩ := hp
  refine gr_istore dL_law_578 (by decide) rfl ?_
  refine gr_aload_n dL_law_580 rfl ?_
  refine gr_h (hp_m hD) ?_
  refine gr_callV dL_law_581 (c_mmeets l E 9 _ A hD.2.1 s fa si sr pu va ro pm bm ma ti ta im sh un pv kn hs8 mm hs11) ysX9_meets ⟨ml_L_103, im_X9_meets, sl_X9_meets⟩ (md_0 hD.2.1) (show vwCl[9]? = some (RX9, TX9, _) from rfl) rfl rfl (Nat.le_of_ble_eq_true rfl) ⟨by decide, by decide⟩ ⟨by show _ + 0 ≤ 603072; omega, by show _ + 0 ≤ 7165560; omega⟩ (fun r0 h1 hp9 => ?_)
  have key : AM E Z A c' q w' k zJ r0 h1 := by
    obtain ⟨rfl, r, rfl, hr⟩ := hp9
    obtain ⟨rfl, rfl, hw⟩ := hQ
    refine ⟨r, (va_up s 0 (nI (cdK kn))), fa, si, sr, pu, va, ro, pm, bm, ma, ti, ta, im, sh, un, pv, rfl, rfl, rfl, fun z => ?_, ⟨_, _, _, _, _, _, _, _, _, _, _, _, _, _, _, _, _, _, _, _, _, _, _, _, _, _, _, _, _, _, _, _, _, _, _, _, _, hI, rfl, hS.t0 _⟩⟩
    rw [hw z, hr z]
    refine congrArg zJ ?_
    rw [(hK (cdK_0 z)).2.1]
  obtain ⟨r, s2, fa2, si2, sr2, pu2, va2, ro2, pm2, bm2, ma2, ti2, ta2, im2, sh2, un2, pv2, rfl, rfl, e0, hv, hR2⟩ := key
  refine gr_istore dL_law_584 (by decide) rfl ?_
  refine gr_aload_n dL_law_586 rfl ?_
  refine gr_callV dL_law_587 (c_thrown l E 10 _ A hD.2.1 s2 fa2 si2 sr2 pu2 va2 ro2 pm2 bm2 ma2 ti2 ta2 im2 sh2 un2 pv2) ysX9_thrown ⟨ml_L_82, im_X9_thrown, sl_X9_thrown⟩ (md_0 hD.2.1) (show vwCl[9]? = some (RX9, TX9, _) from rfl) rfl rfl (Nat.le_of_ble_eq_true rfl) ⟨by decide, by decide⟩ ⟨by show _ + 0 ≤ 603072; omega, by show _ + 0 ≤ 7165560; omega⟩ (fun r9 h9 hp8 => ?_)
  obtain ⟨rfl, rfl⟩ := hp8
  refine gr_h (hp_m hD).symm ?_
  refine gr_iload dL_law_590 rfl ?_
  refine gr_icmpeq 597 dL_law_592 (by decide) (fun _ => ?_) (fun z => absurd e0 z)
  refine gr_iload dL_law_597 rfl ?_
  refine gr_ifneN 621 dL_law_599 (by decide) (by omega) (fun ck => ?_) (fun ck => ?_)
  · exact gr_goto 1196 dL_law_621 (by decide) (gr_wide (by omega) (by omega) (kk _ _ _ _ _ hR2))
  · refine gr_aload_n dL_law_602 rfl ?_
    refine gr_iconst (v := nI 0) dL_law_603 rfl ?_
    refine gr_laload dL_law_604 hp_q (by decide) (by decide) ?_
    refine gr_iload dL_law_605 rfl ?_
    refine gr_ifeq 614 dL_law_607 (by decide) (fun cz => ?_) (fun cz => ?_)
    · refine gr_lconst (v := lN 0) dL_law_614 rfl ?_
      refine gr_lcmp dL_law_615 (gr_top (congrArg Value.int (lcmp_same (by have e := hv ck; unfold zJ at e; rwa [if_pos cz] at e))) ?_)
      refine gr_ifeqN 621 dL_law_616 (by decide) (by omega) (fun _ => ?_) (fun z => absurd rfl z)
      exact gr_goto 1196 dL_law_621 (by decide) (gr_wide (by omega) (by omega) (kk _ _ _ _ _ hR2))
    · refine gr_lconst (v := lN 1) dL_law_610 rfl (gr_goto 615 dL_law_611 (by decide) ?_)
      refine gr_lcmp dL_law_615 (gr_top (congrArg Value.int (lcmp_same (by have e := hv ck; unfold zJ at e; rwa [if_neg cz] at e))) ?_)
      refine gr_ifeqN 621 dL_law_616 (by decide) (by omega) (fun _ => ?_) (fun z => absurd rfl z)
      exact gr_goto 1196 dL_law_621 (by decide) (gr_wide (by omega) (by omega) (kk _ _ _ _ _ hR2))

set_option maxHeartbeats 4000000 in
set_option maxRecDepth 100000 in
theorem op_powers (l : Launch) (hl0 : l.stackTraces = false) (E : ga_E) (b L : Nat) (xs : Nat → Int32) (hbE : b < ga_N0 E) (hL : L ≤ 3585) (Z A : Nat → Nat) (q : Nat) (hD : Dj Z A q) (ZZ : List Frame → Array Value → State → State → Prop) (c md : Nat → va_E) (w : Nat → Int64) (hR : RLa E Z A c md) (i : Nat) (hi : i + 7 ≤ L) (x5 x6 : Option Value) (cells slots : Nat) (hcs : cells + 3 ≤ 603072 ∧ slots + 18 ≤ 7165560) (kk : ∀ (c' md' : Nat → va_E) (w' : Nat → Int64) (x5 x6 : Option Value), RLa E Z A c' md' → ga_G l E mL_law room_1 (Zs b L xs ZZ) 1196 [some (.ref b), some (.ref (Z 0)), some (.ref (A 0)), some (.ref q), some (.int (nI i)), x5, x6] [] (HP Z c' A md' q (ga_j E 1 w')) (cells + 3) (slots + 18)) : ga_G l E mL_law room_1 (Zs b L xs ZZ) 624 [some (.ref b), some (.ref (Z 0)), some (.ref (A 0)), some (.ref q), some (.int (nI i)), x5, x6] [] (HP Z c A md q (ga_j E 1 w)) cells slots := by
  obtain ⟨o, F, S, tr, zk, kn, mt, bc, n0, rv, pa, ba, bs, bv, sn, kv, y, zn, zf, cn, cf, s, fa, si, sr, pu, va, ro, pm, bm, ma, ti, ta, im, sh, un, pv, hI, rfl, hS⟩ := hR
  have ho := hS.2.1
  have ho4 := hS.1.1
  have hs5 := hS.2.2.2.2.1
  have hV := hS.2.2.2.2.2.1
  have hs8 := hS.2.2.2.2.2.2.1
  have hzk := hS.2.2.2.2.2.2.2.1
  have hnb := hS.2.2.2.2.2.2.2.2.1
  obtain ⟨nm, mm, pw, hs9, hs11, hs13, hK⟩ := hS.opened
  refine gr_aload_n dL_law_624 rfl ?_
  refine gr_aload_n dL_law_625 rfl ?_
  refine gr_h (hp_c hD) ?_
  refine gr_callSW (n := 2) dL_law_626 (h_powers l E 10 _ (Z 0) q w _ 1 6 _ _ (fun r0 h' => ∃ (k : Nat) (c' : Nat → va_E) (w' : Nat → Int64), k < 4 ∧ r0 = some (.int (nI k)) ∧ h' = HP Z c' A (mdC E A s fa si sr pu va ro pm bm ma ti ta im sh pv un) q (ga_j E 1 w') ∧ (c' = c ∧ k = cdK kn ∧ (k = 0 → w' 0 = Int32.toInt64 (nI bc)))) (co_ra hD.1 hI) (c_powers l hl0 E 2 _ Z hD.1 o F S tr zk kn mt bc n0 rv pa ba bs bv sn kv y zn zf cn cf c hI ) (fun r h' hp => by obtain ⟨e, rfl, rfl⟩ := hp; exact ⟨_, rfl, hp_cq hD, 0, c, _, by omega, rfl, hp_cw hD, rfl, e.symm, fun _ => rfl⟩) (fun Y h' hp => by obtain ⟨rfl, e, rfl⟩ := hp; exact ⟨rfl, 1, c, w, by omega, rfl, (hp_c hD).symm, rfl, e.symm, fun z => absurd z (by omega)⟩)) cx_L_powers wi_L (by decide +kernel) (by decide) ⟨ml_L_104, sm_L_powers⟩ rfl rfl (Nat.le_of_ble_eq_true rfl) ⟨by decide, by decide⟩ ⟨by show _ + 1 ≤ 603072; omega, by show _ + 6 ≤ 7165560; omega⟩ (fun r0 h1 hp => ?_)
  obtain ⟨k, c', w', hk4, rfl, rfl, hQ⟩ := hp
  refine gr_istore dL_law_629 (by decide) rfl ?_
  refine gr_aload_n dL_law_631 rfl ?_
  refine gr_h (hp_m hD) ?_
  refine gr_callV dL_law_632 (c_mpowers l E 9 _ A hD.2.1 s fa si sr pu va ro pm bm ma ti ta im sh un pv kn hs8) ysX9_powers ⟨ml_L_106, im_X9_powers, sl_X9_powers⟩ (md_0 hD.2.1) (show vwCl[9]? = some (RX9, TX9, _) from rfl) rfl rfl (Nat.le_of_ble_eq_true rfl) ⟨by decide, by decide⟩ ⟨by show _ + 0 ≤ 603072; omega, by show _ + 0 ≤ 7165560; omega⟩ (fun r0 h1 hp9 => ?_)
  have key : AM E Z A c' q w' k Int32.toInt64 r0 h1 := by
    obtain ⟨rfl, r, rfl, hr⟩ := hp9
    obtain ⟨rfl, rfl, hw⟩ := hQ
    refine ⟨r, (va_up s 0 (nI (cdK kn))), fa, si, sr, pu, va, ro, pm, bm, ma, ti, ta, im, sh, un, pv, rfl, rfl, rfl, fun z => ?_, ⟨_, _, _, _, _, _, _, _, _, _, _, _, _, _, _, _, _, _, _, _, _, _, _, _, _, _, _, _, _, _, _, _, _, _, _, _, _, hI, rfl, hS.t0 _⟩⟩
    rw [hw z, hr z]
    refine congrArg Int32.toInt64 ?_
    rw [(hK (cdK_0 z)).2.2.1]; exact hs13.1.symm
  obtain ⟨r, s2, fa2, si2, sr2, pu2, va2, ro2, pm2, bm2, ma2, ti2, ta2, im2, sh2, un2, pv2, rfl, rfl, e0, hv, hR2⟩ := key
  refine gr_istore dL_law_635 (by decide) rfl ?_
  refine gr_aload_n dL_law_637 rfl ?_
  refine gr_callV dL_law_638 (c_thrown l E 10 _ A hD.2.1 s2 fa2 si2 sr2 pu2 va2 ro2 pm2 bm2 ma2 ti2 ta2 im2 sh2 un2 pv2) ysX9_thrown ⟨ml_L_82, im_X9_thrown, sl_X9_thrown⟩ (md_0 hD.2.1) (show vwCl[9]? = some (RX9, TX9, _) from rfl) rfl rfl (Nat.le_of_ble_eq_true rfl) ⟨by decide, by decide⟩ ⟨by show _ + 0 ≤ 603072; omega, by show _ + 0 ≤ 7165560; omega⟩ (fun r9 h9 hp8 => ?_)
  obtain ⟨rfl, rfl⟩ := hp8
  refine gr_h (hp_m hD).symm ?_
  refine gr_iload dL_law_641 rfl ?_
  refine gr_icmpeq 648 dL_law_643 (by decide) (fun _ => ?_) (fun z => absurd e0 z)
  refine gr_iload dL_law_648 rfl ?_
  refine gr_ifneN 665 dL_law_650 (by decide) (by omega) (fun ck => ?_) (fun ck => ?_)
  · exact gr_goto 1196 dL_law_665 (by decide) (gr_wide (by omega) (by omega) (kk _ _ _ _ _ hR2))
  · refine gr_aload_n dL_law_653 rfl ?_
    refine gr_iconst (v := nI 0) dL_law_654 rfl ?_
    refine gr_laload dL_law_655 hp_q (by decide) (by decide) ?_
    refine gr_iload dL_law_656 rfl ?_
    refine gr_i2l dL_law_658 rfl ?_
    refine gr_lcmp dL_law_659 (gr_top (congrArg Value.int (lcmp_same (hv ck))) ?_)
    refine gr_ifeqN 665 dL_law_660 (by decide) (by omega) (fun _ => ?_) (fun z => absurd rfl z)
    exact gr_goto 1196 dL_law_665 (by decide) (gr_wide (by omega) (by omega) (kk _ _ _ _ _ hR2))

set_option maxHeartbeats 4000000 in
set_option maxRecDepth 100000 in
theorem op_base (l : Launch) (hl0 : l.stackTraces = false) (E : ga_E) (b L : Nat) (xs : Nat → Int32) (hbE : b < ga_N0 E) (hL : L ≤ 3585) (Z A : Nat → Nat) (q : Nat) (hD : Dj Z A q) (ZZ : List Frame → Array Value → State → State → Prop) (c md : Nat → va_E) (w : Nat → Int64) (hR : RLa E Z A c md) (i : Nat) (hi : i + 7 ≤ L) (x5 x6 : Option Value) (cells slots : Nat) (hcs : cells + 3 ≤ 603072 ∧ slots + 18 ≤ 7165560) (kk : ∀ (c' md' : Nat → va_E) (w' : Nat → Int64) (x5 x6 : Option Value), RLa E Z A c' md' → ga_G l E mL_law room_1 (Zs b L xs ZZ) 1196 [some (.ref b), some (.ref (Z 0)), some (.ref (A 0)), some (.ref q), some (.int (nI i)), x5, x6] [] (HP Z c' A md' q (ga_j E 1 w')) (cells + 3) (slots + 18)) : ga_G l E mL_law room_1 (Zs b L xs ZZ) 668 [some (.ref b), some (.ref (Z 0)), some (.ref (A 0)), some (.ref q), some (.int (nI i)), x5, x6] [] (HP Z c A md q (ga_j E 1 w)) cells slots := by
  obtain ⟨o, F, S, tr, zk, kn, mt, bc, n0, rv, pa, ba, bs, bv, sn, kv, y, zn, zf, cn, cf, s, fa, si, sr, pu, va, ro, pm, bm, ma, ti, ta, im, sh, un, pv, hI, rfl, hS⟩ := hR
  have ho := hS.2.1
  have ho4 := hS.1.1
  have hs5 := hS.2.2.2.2.1
  have hV := hS.2.2.2.2.2.1
  have hs8 := hS.2.2.2.2.2.2.1
  have hzk := hS.2.2.2.2.2.2.2.1
  have hnb := hS.2.2.2.2.2.2.2.2.1
  obtain ⟨nm, mm, pw, hs9, hs11, hs13, hK⟩ := hS.opened
  refine gr_aload_n dL_law_668 rfl ?_
  refine gr_aload_n dL_law_669 rfl ?_
  refine gr_iload dL_law_670 rfl ?_
  refine gr_iconst (v := nI 1) dL_law_672 rfl ?_
  refine gr_iaddN dL_law_673 ?_
  refine gr_sld dL_law_674 hbE (by omega) hL ?_
  refine gr_aload_n dL_law_675 rfl ?_
  refine gr_h (hp_c hD) ?_
  refine gr_callSW (n := 3) dL_law_676 (h_base l E 10 _ (Z 0) q w _ _ 1 6 _ _ (fun r0 h' => ∃ (k : Nat) (c' : Nat → va_E) (w' : Nat → Int64), k < 4 ∧ r0 = some (.int (nI k)) ∧ h' = HP Z c' A (mdC E A s fa si sr pu va ro pm bm ma ti ta im sh pv un) q (ga_j E 1 w') ∧ (c' = c ∧ k = cdK kn ∧ (k = 0 → w' 0 = Int32.toInt64 (if ltR (xs (i + 1)) bc = true then nI (ba (ix (xs (i + 1)))).val else -1)))) (co_ra hD.1 hI) (c_base l hl0 E 2 _ Z hD.1 o F S tr zk kn mt bc n0 rv pa ba bs bv sn kv y zn zf cn cf c hI hnb.2.1 _) (fun r h' hp => by obtain ⟨e, rfl, rfl⟩ := hp; exact ⟨_, rfl, hp_cq hD, 0, c, _, by omega, rfl, hp_cw hD, rfl, e.symm, fun _ => rfl⟩) (fun Y h' hp => by obtain ⟨rfl, e, rfl⟩ := hp; exact ⟨rfl, 1, c, w, by omega, rfl, (hp_c hD).symm, rfl, e.symm, fun z => absurd z (by omega)⟩)) cx_L_base wi_L (by decide +kernel) (by decide) ⟨ml_L_107, sm_L_base⟩ rfl rfl (Nat.le_of_ble_eq_true rfl) ⟨by decide, by decide⟩ ⟨by show _ + 1 ≤ 603072; omega, by show _ + 6 ≤ 7165560; omega⟩ (fun r0 h1 hp => ?_)
  obtain ⟨k, c', w', hk4, rfl, rfl, hQ⟩ := hp
  refine gr_istore dL_law_679 (by decide) rfl ?_
  refine gr_aload_n dL_law_681 rfl ?_
  refine gr_aload_n dL_law_682 rfl ?_
  refine gr_iload dL_law_683 rfl ?_
  refine gr_iconst (v := nI 1) dL_law_685 rfl ?_
  refine gr_iaddN dL_law_686 ?_
  refine gr_sld dL_law_687 hbE (by omega) hL ?_
  refine gr_h (hp_m hD) ?_
  refine gr_callV dL_law_688 (c_mbase l E 9 _ A hD.2.1 s fa si sr pu va ro pm bm ma ti ta im sh un pv kn hs8 pw hs13.1 (by omega) _) ysX9_base ⟨ml_L_110, im_X9_base, sl_X9_base⟩ (md_0 hD.2.1) (show vwCl[9]? = some (RX9, TX9, _) from rfl) rfl rfl (Nat.le_of_ble_eq_true rfl) ⟨by decide, by decide⟩ ⟨by show _ + 0 ≤ 603072; omega, by show _ + 0 ≤ 7165560; omega⟩ (fun r0 h1 hp9 => ?_)
  have key : AM E Z A c' q w' k Int32.toInt64 r0 h1 := by
    obtain ⟨rfl, r, rfl, hr⟩ := hp9
    obtain ⟨rfl, rfl, hw⟩ := hQ
    refine ⟨r, (va_up s 0 (nI (cdK kn))), fa, si, sr, pu, va, ro, pm, bm, ma, ti, ta, im, sh, un, pv, rfl, rfl, rfl, fun z => ?_, ⟨_, _, _, _, _, _, _, _, _, _, _, _, _, _, _, _, _, _, _, _, _, _, _, _, _, _, _, _, _, _, _, _, _, _, _, _, _, hI, rfl, hS.t0 _⟩⟩
    rw [hw z, hr z]
    refine congrArg Int32.toInt64 ?_
    obtain ⟨-, -, e3, -, -, e6⟩ := hK (cdK_0 z)
    rw [← e3]
    by_cases cz : ltR (xs (i + 1)) bc = true
    · rw [if_pos cz, if_pos cz, (e6 _ (ltR_ix cz).1).1]
    · rw [if_neg cz, if_neg cz]
  obtain ⟨r, s2, fa2, si2, sr2, pu2, va2, ro2, pm2, bm2, ma2, ti2, ta2, im2, sh2, un2, pv2, rfl, rfl, e0, hv, hR2⟩ := key
  refine gr_istore dL_law_691 (by decide) rfl ?_
  refine gr_aload_n dL_law_693 rfl ?_
  refine gr_callV dL_law_694 (c_thrown l E 10 _ A hD.2.1 s2 fa2 si2 sr2 pu2 va2 ro2 pm2 bm2 ma2 ti2 ta2 im2 sh2 un2 pv2) ysX9_thrown ⟨ml_L_82, im_X9_thrown, sl_X9_thrown⟩ (md_0 hD.2.1) (show vwCl[9]? = some (RX9, TX9, _) from rfl) rfl rfl (Nat.le_of_ble_eq_true rfl) ⟨by decide, by decide⟩ ⟨by show _ + 0 ≤ 603072; omega, by show _ + 0 ≤ 7165560; omega⟩ (fun r9 h9 hp8 => ?_)
  obtain ⟨rfl, rfl⟩ := hp8
  refine gr_h (hp_m hD).symm ?_
  refine gr_iload dL_law_697 rfl ?_
  refine gr_icmpeq 704 dL_law_699 (by decide) (fun _ => ?_) (fun z => absurd e0 z)
  refine gr_iload dL_law_704 rfl ?_
  refine gr_ifneN 721 dL_law_706 (by decide) (by omega) (fun ck => ?_) (fun ck => ?_)
  · exact gr_goto 1196 dL_law_721 (by decide) (gr_wide (by omega) (by omega) (kk _ _ _ _ _ hR2))
  · refine gr_aload_n dL_law_709 rfl ?_
    refine gr_iconst (v := nI 0) dL_law_710 rfl ?_
    refine gr_laload dL_law_711 hp_q (by decide) (by decide) ?_
    refine gr_iload dL_law_712 rfl ?_
    refine gr_i2l dL_law_714 rfl ?_
    refine gr_lcmp dL_law_715 (gr_top (congrArg Value.int (lcmp_same (hv ck))) ?_)
    refine gr_ifeqN 721 dL_law_716 (by decide) (by omega) (fun _ => ?_) (fun z => absurd rfl z)
    exact gr_goto 1196 dL_law_721 (by decide) (gr_wide (by omega) (by omega) (kk _ _ _ _ _ hR2))

set_option maxHeartbeats 4000000 in
set_option maxRecDepth 100000 in
theorem op_many (l : Launch) (hl0 : l.stackTraces = false) (E : ga_E) (b L : Nat) (xs : Nat → Int32) (hbE : b < ga_N0 E) (hL : L ≤ 3585) (Z A : Nat → Nat) (q : Nat) (hD : Dj Z A q) (ZZ : List Frame → Array Value → State → State → Prop) (c md : Nat → va_E) (w : Nat → Int64) (hR : RLa E Z A c md) (i : Nat) (hi : i + 7 ≤ L) (x5 x6 : Option Value) (cells slots : Nat) (hcs : cells + 3 ≤ 603072 ∧ slots + 18 ≤ 7165560) (kk : ∀ (c' md' : Nat → va_E) (w' : Nat → Int64) (x5 x6 : Option Value), RLa E Z A c' md' → ga_G l E mL_law room_1 (Zs b L xs ZZ) 1196 [some (.ref b), some (.ref (Z 0)), some (.ref (A 0)), some (.ref q), some (.int (nI i)), x5, x6] [] (HP Z c' A md' q (ga_j E 1 w')) (cells + 3) (slots + 18)) : ga_G l E mL_law room_1 (Zs b L xs ZZ) 724 [some (.ref b), some (.ref (Z 0)), some (.ref (A 0)), some (.ref q), some (.int (nI i)), x5, x6] [] (HP Z c A md q (ga_j E 1 w)) cells slots := by
  obtain ⟨o, F, S, tr, zk, kn, mt, bc, n0, rv, pa, ba, bs, bv, sn, kv, y, zn, zf, cn, cf, s, fa, si, sr, pu, va, ro, pm, bm, ma, ti, ta, im, sh, un, pv, hI, rfl, hS⟩ := hR
  have ho := hS.2.1
  have ho4 := hS.1.1
  have hs5 := hS.2.2.2.2.1
  have hV := hS.2.2.2.2.2.1
  have hs8 := hS.2.2.2.2.2.2.1
  have hzk := hS.2.2.2.2.2.2.2.1
  have hnb := hS.2.2.2.2.2.2.2.2.1
  obtain ⟨nm, mm, pw, hs9, hs11, hs13, hK⟩ := hS.opened
  refine gr_aload_n dL_law_724 rfl ?_
  refine gr_aload_n dL_law_725 rfl ?_
  refine gr_iload dL_law_726 rfl ?_
  refine gr_iconst (v := nI 1) dL_law_728 rfl ?_
  refine gr_iaddN dL_law_729 ?_
  refine gr_sld dL_law_730 hbE (by omega) hL ?_
  refine gr_aload_n dL_law_731 rfl ?_
  refine gr_h (hp_c hD) ?_
  refine gr_callSW (n := 3) dL_law_732 (h_many l E 10 _ (Z 0) q w _ _ 1 6 _ _ (fun r0 h' => ∃ (k : Nat) (c' : Nat → va_E) (w' : Nat → Int64), k < 4 ∧ r0 = some (.int (nI k)) ∧ h' = HP Z c' A (mdC E A s fa si sr pu va ro pm bm ma ti ta im sh pv un) q (ga_j E 1 w') ∧ (c' = c ∧ k = cdK kn ∧ (k = 0 → w' 0 = Int32.toInt64 (if ltR (xs (i + 1)) bc = true then nI (bs (ix (xs (i + 1)))) else -1)))) (co_ra hD.1 hI) (c_many l hl0 E 2 _ Z hD.1 o F S tr zk kn mt bc n0 rv pa ba bs bv sn kv y zn zf cn cf c hI hnb.2.1 _) (fun r h' hp => by obtain ⟨e, rfl, rfl⟩ := hp; exact ⟨_, rfl, hp_cq hD, 0, c, _, by omega, rfl, hp_cw hD, rfl, e.symm, fun _ => rfl⟩) (fun Y h' hp => by obtain ⟨rfl, e, rfl⟩ := hp; exact ⟨rfl, 1, c, w, by omega, rfl, (hp_c hD).symm, rfl, e.symm, fun z => absurd z (by omega)⟩)) cx_L_many wi_L (by decide +kernel) (by decide) ⟨ml_L_111, sm_L_many⟩ rfl rfl (Nat.le_of_ble_eq_true rfl) ⟨by decide, by decide⟩ ⟨by show _ + 1 ≤ 603072; omega, by show _ + 6 ≤ 7165560; omega⟩ (fun r0 h1 hp => ?_)
  obtain ⟨k, c', w', hk4, rfl, rfl, hQ⟩ := hp
  refine gr_istore dL_law_735 (by decide) rfl ?_
  refine gr_aload_n dL_law_737 rfl ?_
  refine gr_aload_n dL_law_738 rfl ?_
  refine gr_iload dL_law_739 rfl ?_
  refine gr_iconst (v := nI 1) dL_law_741 rfl ?_
  refine gr_iaddN dL_law_742 ?_
  refine gr_sld dL_law_743 hbE (by omega) hL ?_
  refine gr_h (hp_m hD) ?_
  refine gr_callV dL_law_744 (c_mmany l E 9 _ A hD.2.1 s fa si sr pu va ro pm bm ma ti ta im sh un pv kn hs8 pw hs13.1 (by omega) _) ysX9_many ⟨ml_L_113, im_X9_many, sl_X9_many⟩ (md_0 hD.2.1) (show vwCl[9]? = some (RX9, TX9, _) from rfl) rfl rfl (Nat.le_of_ble_eq_true rfl) ⟨by decide, by decide⟩ ⟨by show _ + 0 ≤ 603072; omega, by show _ + 0 ≤ 7165560; omega⟩ (fun r0 h1 hp9 => ?_)
  have key : AM E Z A c' q w' k Int32.toInt64 r0 h1 := by
    obtain ⟨rfl, r, rfl, hr⟩ := hp9
    obtain ⟨rfl, rfl, hw⟩ := hQ
    refine ⟨r, (va_up s 0 (nI (cdK kn))), fa, si, sr, pu, va, ro, pm, bm, ma, ti, ta, im, sh, un, pv, rfl, rfl, rfl, fun z => ?_, ⟨_, _, _, _, _, _, _, _, _, _, _, _, _, _, _, _, _, _, _, _, _, _, _, _, _, _, _, _, _, _, _, _, _, _, _, _, _, hI, rfl, hS.t0 _⟩⟩
    rw [hw z, hr z]
    refine congrArg Int32.toInt64 ?_
    obtain ⟨-, -, e3, -, -, e6⟩ := hK (cdK_0 z)
    rw [← e3]
    by_cases cz : ltR (xs (i + 1)) bc = true
    · rw [if_pos cz, if_pos cz, (e6 _ (ltR_ix cz).1).2.1]
    · rw [if_neg cz, if_neg cz]
  obtain ⟨r, s2, fa2, si2, sr2, pu2, va2, ro2, pm2, bm2, ma2, ti2, ta2, im2, sh2, un2, pv2, rfl, rfl, e0, hv, hR2⟩ := key
  refine gr_istore dL_law_747 (by decide) rfl ?_
  refine gr_aload_n dL_law_749 rfl ?_
  refine gr_callV dL_law_750 (c_thrown l E 10 _ A hD.2.1 s2 fa2 si2 sr2 pu2 va2 ro2 pm2 bm2 ma2 ti2 ta2 im2 sh2 un2 pv2) ysX9_thrown ⟨ml_L_82, im_X9_thrown, sl_X9_thrown⟩ (md_0 hD.2.1) (show vwCl[9]? = some (RX9, TX9, _) from rfl) rfl rfl (Nat.le_of_ble_eq_true rfl) ⟨by decide, by decide⟩ ⟨by show _ + 0 ≤ 603072; omega, by show _ + 0 ≤ 7165560; omega⟩ (fun r9 h9 hp8 => ?_)
  obtain ⟨rfl, rfl⟩ := hp8
  refine gr_h (hp_m hD).symm ?_
  refine gr_iload dL_law_753 rfl ?_
  refine gr_icmpeq 760 dL_law_755 (by decide) (fun _ => ?_) (fun z => absurd e0 z)
  refine gr_iload dL_law_760 rfl ?_
  refine gr_ifneN 777 dL_law_762 (by decide) (by omega) (fun ck => ?_) (fun ck => ?_)
  · exact gr_goto 1196 dL_law_777 (by decide) (gr_wide (by omega) (by omega) (kk _ _ _ _ _ hR2))
  · refine gr_aload_n dL_law_765 rfl ?_
    refine gr_iconst (v := nI 0) dL_law_766 rfl ?_
    refine gr_laload dL_law_767 hp_q (by decide) (by decide) ?_
    refine gr_iload dL_law_768 rfl ?_
    refine gr_i2l dL_law_770 rfl ?_
    refine gr_lcmp dL_law_771 (gr_top (congrArg Value.int (lcmp_same (hv ck))) ?_)
    refine gr_ifeqN 777 dL_law_772 (by decide) (by omega) (fun _ => ?_) (fun z => absurd rfl z)
    exact gr_goto 1196 dL_law_777 (by decide) (gr_wide (by omega) (by omega) (kk _ _ _ _ _ hR2))

set_option maxHeartbeats 4000000 in
set_option maxRecDepth 100000 in
theorem op_answer (l : Launch) (hl0 : l.stackTraces = false) (E : ga_E) (b L : Nat) (xs : Nat → Int32) (hbE : b < ga_N0 E) (hL : L ≤ 3585) (Z A : Nat → Nat) (q : Nat) (hD : Dj Z A q) (ZZ : List Frame → Array Value → State → State → Prop) (c md : Nat → va_E) (w : Nat → Int64) (hR : RLa E Z A c md) (i : Nat) (hi : i + 7 ≤ L) (x5 x6 : Option Value) (cells slots : Nat) (hcs : cells + 3 ≤ 603072 ∧ slots + 18 ≤ 7165560) (kk : ∀ (c' md' : Nat → va_E) (w' : Nat → Int64) (x5 x6 : Option Value), RLa E Z A c' md' → ga_G l E mL_law room_1 (Zs b L xs ZZ) 1196 [some (.ref b), some (.ref (Z 0)), some (.ref (A 0)), some (.ref q), some (.int (nI i)), x5, x6] [] (HP Z c' A md' q (ga_j E 1 w')) (cells + 3) (slots + 18)) : ga_G l E mL_law room_1 (Zs b L xs ZZ) 505 [some (.ref b), some (.ref (Z 0)), some (.ref (A 0)), some (.ref q), some (.int (nI i)), x5, x6] [] (HP Z c A md q (ga_j E 1 w)) cells slots := by
  obtain ⟨o, F, S, tr, zk, kn, mt, bc, n0, rv, pa, ba, bs, bv, sn, kv, y, zn, zf, cn, cf, s, fa, si, sr, pu, va, ro, pm, bm, ma, ti, ta, im, sh, un, pv, hI, rfl, hS⟩ := hR
  have ho := hS.2.1
  have ho4 := hS.1.1
  have hs5 := hS.2.2.2.2.1
  have hV := hS.2.2.2.2.2.1
  have hs8 := hS.2.2.2.2.2.2.1
  have hzk := hS.2.2.2.2.2.2.2.1
  have hnb := hS.2.2.2.2.2.2.2.2.1
  obtain ⟨nm, mm, pw, hs9, hs11, hs13, hK⟩ := hS.opened
  refine gr_aload_n dL_law_505 rfl ?_
  refine gr_aload_n dL_law_506 rfl ?_
  refine gr_iload dL_law_507 rfl ?_
  refine gr_iconst (v := nI 1) dL_law_509 rfl ?_
  refine gr_iaddN dL_law_510 ?_
  refine gr_sld dL_law_511 hbE (by omega) hL ?_
  refine gr_aload_n dL_law_512 rfl ?_
  refine gr_iload dL_law_513 rfl ?_
  refine gr_iconst (v := nI 2) dL_law_515 rfl ?_
  refine gr_iaddN dL_law_516 ?_
  refine gr_sld dL_law_517 hbE (by omega) hL ?_
  refine gr_aload_n dL_law_518 rfl ?_
  refine gr_h (hp_c hD) ?_
  refine gr_callSW (n := 4) dL_law_519 (h_answer l E 10 _ (Z 0) q w _ _ _ 3 18 _ _ (fun r0 h' => ∃ (k : Nat) (c' : Nat → va_E) (w' : Nat → Int64), k < 4 ∧ r0 = some (.int (nI k)) ∧ h' = HP Z c' A (mdC E A s fa si sr pu va ro pm bm ma ti ta im sh pv un) q (ga_j E 1 w') ∧ (c' = c ∧ k = cdA kn n0 mt (xs (i + 1)) (xs (i + 2)) ∧ (k = 0 → w' 0 = Int32.toInt64 (if (xs (i + 1)) < 0 then nI (pa (ix (xs (i + 2)))).val else nI (rv (13 * ix (xs (i + 1)) + ix (xs (i + 2)))).val)))) (co_ra hD.1 hI) (c_answer l hl0 E 2 _ Z hD.1 o F S tr zk kn mt bc n0 rv pa ba bs bv sn kv y zn zf cn cf c hI hnb.1 _ _) (fun r h' hp => by obtain ⟨e, rfl, rfl⟩ := hp; exact ⟨_, rfl, hp_cq hD, 0, c, _, by omega, rfl, hp_cw hD, rfl, e.symm, fun _ => rfl⟩) (fun Y h' hp => hp.2.elim (fun e => Or.inl ⟨e.1, 1, c, w, by omega, rfl, hp.1.trans (hp_c hD).symm, rfl, e.2.symm, fun z => absurd z (by omega)⟩) (fun e => Or.inr ⟨e.1, 2, c, w, by omega, rfl, hp.1.trans (hp_c hD).symm, rfl, e.2.symm, fun z => absurd z (by omega)⟩))) cx_L_answer wi_L (by decide +kernel) (by decide) ⟨ml_L_97, sm_L_answer⟩ rfl rfl (Nat.le_of_ble_eq_true rfl) ⟨by decide, by decide⟩ ⟨by show _ + 3 ≤ 603072; omega, by show _ + 18 ≤ 7165560; omega⟩ (fun r0 h1 hp => ?_)
  obtain ⟨k, c', w', hk4, rfl, rfl, hQ⟩ := hp
  refine gr_istore dL_law_522 (by decide) rfl ?_
  refine gr_aload_n dL_law_524 rfl ?_
  refine gr_aload_n dL_law_525 rfl ?_
  refine gr_iload dL_law_526 rfl ?_
  refine gr_iconst (v := nI 1) dL_law_528 rfl ?_
  refine gr_iaddN dL_law_529 ?_
  refine gr_sld dL_law_530 hbE (by omega) hL ?_
  refine gr_aload_n dL_law_531 rfl ?_
  refine gr_iload dL_law_532 rfl ?_
  refine gr_iconst (v := nI 2) dL_law_534 rfl ?_
  refine gr_iaddN dL_law_535 ?_
  refine gr_sld dL_law_536 hbE (by omega) hL ?_
  refine gr_h (hp_m hD) ?_
  refine gr_callV dL_law_537 (c_manswer l E 9 _ A hD.2.1 s fa si sr pu va ro pm bm ma ti ta im sh un pv kn hs8 nm hs9.1 hs9.2 mm hs11 _ _) ysX9_answer ⟨ml_L_100, im_X9_answer, sl_X9_answer⟩ (md_0 hD.2.1) (show vwCl[9]? = some (RX9, TX9, _) from rfl) rfl rfl (Nat.le_of_ble_eq_true rfl) ⟨by decide, by decide⟩ ⟨by show _ + 0 ≤ 603072; omega, by show _ + 0 ≤ 7165560; omega⟩ (fun r0 h1 hp9 => ?_)
  have key : AM E Z A c' q w' k Int32.toInt64 r0 h1 := by
    obtain ⟨rfl, r, rfl, hr⟩ := hp9
    obtain ⟨rfl, rfl, hw⟩ := hQ
    have hcd : cdA kn n0 mt (xs (i + 1)) (xs (i + 2)) = cdA kn nm mm (xs (i + 1)) (xs (i + 2)) := by
      cases kn with
      | false => rfl
      | true => rw [(hK rfl).1, (hK rfl).2.1]
    refine ⟨r, (va_up s 0 (nI (cdA kn nm mm (xs (i + 1)) (xs (i + 2))))), fa, si, sr, pu, va, ro, pm, bm, ma, ti, ta, im, sh, un, pv, rfl, rfl, congrArg nI hcd.symm, fun z => ?_, ⟨_, _, _, _, _, _, _, _, _, _, _, _, _, _, _, _, _, _, _, _, _, _, _, _, _, _, _, _, _, _, _, _, _, _, _, _, _, hI, rfl, hS.t0 _⟩⟩
    rw [hw z, hr (hcd ▸ z)]
    obtain ⟨hk1, hp1, hk2⟩ := cdA_0 z
    obtain ⟨e1, e2, -, e4, e5, -⟩ := hK hk1
    refine congrArg Int32.toInt64 ?_
    rcases hk2 with ⟨hk3, hm⟩ | hk3
    · rw [if_pos (by rw [hk3]; decide), if_pos (by rw [hk3]; decide), e5 hm _ (ltR_ix hp1).1]
    · rw [if_neg (ltR_ix hk3).2, if_neg (ltR_ix hk3).2, e4 _ (ltR_ix hk3).1 _ (ltR_ix hp1).1]
  obtain ⟨r, s2, fa2, si2, sr2, pu2, va2, ro2, pm2, bm2, ma2, ti2, ta2, im2, sh2, un2, pv2, rfl, rfl, e0, hv, hR2⟩ := key
  refine gr_istore dL_law_540 (by decide) rfl ?_
  refine gr_aload_n dL_law_542 rfl ?_
  refine gr_callV dL_law_543 (c_thrown l E 10 _ A hD.2.1 s2 fa2 si2 sr2 pu2 va2 ro2 pm2 bm2 ma2 ti2 ta2 im2 sh2 un2 pv2) ysX9_thrown ⟨ml_L_82, im_X9_thrown, sl_X9_thrown⟩ (md_0 hD.2.1) (show vwCl[9]? = some (RX9, TX9, _) from rfl) rfl rfl (Nat.le_of_ble_eq_true rfl) ⟨by decide, by decide⟩ ⟨by show _ + 0 ≤ 603072; omega, by show _ + 0 ≤ 7165560; omega⟩ (fun r9 h9 hp8 => ?_)
  obtain ⟨rfl, rfl⟩ := hp8
  refine gr_h (hp_m hD).symm ?_
  refine gr_iload dL_law_546 rfl ?_
  refine gr_icmpeq 553 dL_law_548 (by decide) (fun _ => ?_) (fun z => absurd e0 z)
  refine gr_iload dL_law_553 rfl ?_
  refine gr_ifneN 570 dL_law_555 (by decide) (by omega) (fun ck => ?_) (fun ck => ?_)
  · exact gr_goto 1196 dL_law_570 (by decide) (gr_wide (by omega) (by omega) (kk _ _ _ _ _ hR2))
  · refine gr_aload_n dL_law_558 rfl ?_
    refine gr_iconst (v := nI 0) dL_law_559 rfl ?_
    refine gr_laload dL_law_560 hp_q (by decide) (by decide) ?_
    refine gr_iload dL_law_561 rfl ?_
    refine gr_i2l dL_law_563 rfl ?_
    refine gr_lcmp dL_law_564 (gr_top (congrArg Value.int (lcmp_same (hv ck))) ?_)
    refine gr_ifeqN 570 dL_law_565 (by decide) (by omega) (fun _ => ?_) (fun z => absurd rfl z)
    exact gr_goto 1196 dL_law_570 (by decide) (gr_wide (by omega) (by omega) (kk _ _ _ _ _ hR2))

set_option maxHeartbeats 4000000 in
set_option maxRecDepth 100000 in
theorem op_times (l : Launch) (hl0 : l.stackTraces = false) (E : ga_E) (b L : Nat) (xs : Nat → Int32) (hbE : b < ga_N0 E) (hL : L ≤ 3585) (Z A : Nat → Nat) (q : Nat) (hD : Dj Z A q) (ZZ : List Frame → Array Value → State → State → Prop) (c md : Nat → va_E) (w : Nat → Int64) (hR : RLa E Z A c md) (i : Nat) (hi : i + 7 ≤ L) (x5 x6 : Option Value) (cells slots : Nat) (hcs : cells + 3 ≤ 603072 ∧ slots + 18 ≤ 7165560) (kk : ∀ (c' md' : Nat → va_E) (w' : Nat → Int64) (x5 x6 : Option Value), RLa E Z A c' md' → ga_G l E mL_law room_1 (Zs b L xs ZZ) 1196 [some (.ref b), some (.ref (Z 0)), some (.ref (A 0)), some (.ref q), some (.int (nI i)), x5, x6] [] (HP Z c' A md' q (ga_j E 1 w')) (cells + 3) (slots + 18)) : ga_G l E mL_law room_1 (Zs b L xs ZZ) 780 [some (.ref b), some (.ref (Z 0)), some (.ref (A 0)), some (.ref q), some (.int (nI i)), x5, x6] [] (HP Z c A md q (ga_j E 1 w)) cells slots := by
  obtain ⟨o, F, S, tr, zk, kn, mt, bc, n0, rv, pa, ba, bs, bv, sn, kv, y, zn, zf, cn, cf, s, fa, si, sr, pu, va, ro, pm, bm, ma, ti, ta, im, sh, un, pv, hI, rfl, hS⟩ := hR
  have ho := hS.2.1
  have ho4 := hS.1.1
  have hs5 := hS.2.2.2.2.1
  have hV := hS.2.2.2.2.2.1
  have hs8 := hS.2.2.2.2.2.2.1
  have hzk := hS.2.2.2.2.2.2.2.1
  have hnb := hS.2.2.2.2.2.2.2.2.1
  obtain ⟨nm, mm, pw, hs9, hs11, hs13, hK⟩ := hS.opened
  refine gr_aload_n dL_law_780 rfl ?_
  refine gr_aload_n dL_law_781 rfl ?_
  refine gr_iload dL_law_782 rfl ?_
  refine gr_iconst (v := nI 1) dL_law_784 rfl ?_
  refine gr_iaddN dL_law_785 ?_
  refine gr_sld dL_law_786 hbE (by omega) hL ?_
  refine gr_aload_n dL_law_787 rfl ?_
  refine gr_iload dL_law_788 rfl ?_
  refine gr_iconst (v := nI 2) dL_law_790 rfl ?_
  refine gr_iaddN dL_law_791 ?_
  refine gr_sld dL_law_792 hbE (by omega) hL ?_
  refine gr_aload_n dL_law_793 rfl ?_
  refine gr_iload dL_law_794 rfl ?_
  refine gr_iconst (v := nI 3) dL_law_796 rfl ?_
  refine gr_iaddN dL_law_797 ?_
  refine gr_sld dL_law_798 hbE (by omega) hL ?_
  refine gr_aload_n dL_law_799 rfl ?_
  refine gr_h (hp_c hD) ?_
  refine gr_callSW (n := 5) dL_law_800 (h_times l E 10 _ (Z 0) q w _ _ _ _ 3 18 _ _ (fun r0 h' => ∃ (k : Nat) (c' : Nat → va_E) (w' : Nat → Int64), k < 4 ∧ r0 = some (.int (nI k)) ∧ h' = HP Z c' A (mdC E A s fa si sr pu va ro pm bm ma ti ta im sh pv un) q (ga_j E 1 w') ∧ (c' = c ∧ k = cdT kn bc (fun a => zo (bs a)) (xs (i + 1)) (xs (i + 2)) (xs (i + 3)) ∧ (k = 0 → w' 0 = Int32.toInt64 (nI (bv (ix (xs (i + 1))) (13 * ix (xs (i + 2)) + ix (xs (i + 3)))).val)))) (co_ra hD.1 hI) (c_times l hl0 E 2 _ Z hD.1 o F S tr zk kn mt bc n0 rv pa ba bs bv sn kv y zn zf cn cf c hI hnb.2.1 hnb.2.2 _ _ _) (fun r h' hp => by obtain ⟨e, rfl, rfl⟩ := hp; exact ⟨_, rfl, hp_cq hD, 0, c, _, by omega, rfl, hp_cw hD, rfl, e.symm, fun _ => rfl⟩) (fun Y h' hp => hp.2.elim (fun e => Or.inl ⟨e.1, 1, c, w, by omega, rfl, hp.1.trans (hp_c hD).symm, rfl, e.2.symm, fun z => absurd z (by omega)⟩) (fun e => Or.inr ⟨e.1, 2, c, w, by omega, rfl, hp.1.trans (hp_c hD).symm, rfl, e.2.symm, fun z => absurd z (by omega)⟩))) cx_L_times wi_L (by decide +kernel) (by decide) ⟨ml_L_114, sm_L_times⟩ rfl rfl (Nat.le_of_ble_eq_true rfl) ⟨by decide, by decide⟩ ⟨by show _ + 3 ≤ 603072; omega, by show _ + 18 ≤ 7165560; omega⟩ (fun r0 h1 hp => ?_)
  obtain ⟨k, c', w', hk4, rfl, rfl, hQ⟩ := hp
  refine gr_istore dL_law_803 (by decide) rfl ?_
  refine gr_aload_n dL_law_805 rfl ?_
  refine gr_aload_n dL_law_806 rfl ?_
  refine gr_iload dL_law_807 rfl ?_
  refine gr_iconst (v := nI 1) dL_law_809 rfl ?_
  refine gr_iaddN dL_law_810 ?_
  refine gr_sld dL_law_811 hbE (by omega) hL ?_
  refine gr_aload_n dL_law_812 rfl ?_
  refine gr_iload dL_law_813 rfl ?_
  refine gr_iconst (v := nI 2) dL_law_815 rfl ?_
  refine gr_iaddN dL_law_816 ?_
  refine gr_sld dL_law_817 hbE (by omega) hL ?_
  refine gr_aload_n dL_law_818 rfl ?_
  refine gr_iload dL_law_819 rfl ?_
  refine gr_iconst (v := nI 3) dL_law_821 rfl ?_
  refine gr_iaddN dL_law_822 ?_
  refine gr_sld dL_law_823 hbE (by omega) hL ?_
  refine gr_h (hp_m hD) ?_
  refine gr_callV dL_law_824 (c_mtimes l E 9 _ A hD.2.1 s fa si sr pu va ro pm bm ma ti ta im sh un pv kn hs8 pw hs13.1 (by omega) hs13.2.2 _ _ _) ysX9_times ⟨ml_L_117, im_X9_times, sl_X9_times⟩ (md_0 hD.2.1) (show vwCl[9]? = some (RX9, TX9, _) from rfl) rfl rfl (Nat.le_of_ble_eq_true rfl) ⟨by decide, by decide⟩ ⟨by show _ + 0 ≤ 603072; omega, by show _ + 0 ≤ 7165560; omega⟩ (fun r0 h1 hp9 => ?_)
  have key : AM E Z A c' q w' k Int32.toInt64 r0 h1 := by
    obtain ⟨rfl, r, rfl, hr⟩ := hp9
    obtain ⟨rfl, rfl, hw⟩ := hQ
    have hcd : cdT kn bc (fun a => zo (bs a)) (xs (i + 1)) (xs (i + 2)) (xs (i + 3)) = cdT kn pw ma (xs (i + 1)) (xs (i + 2)) (xs (i + 3)) := by
      cases kn with
      | false => rfl
      | true =>
        obtain ⟨-, -, e3, -, -, e6⟩ := hK rfl
        unfold cdT
        rw [← e3]
        by_cases cz : ltR (xs (i + 1)) bc = true
        · have e7 := (e6 _ (ltR_ix cz).1).2.1
          have e8 : (zo (bs (ix (xs (i + 1))))).val = (ma (ix (xs (i + 1)))).val := by rw [e7, zo_self]
          show (if true = true then (if ltR (xs (i + 1)) bc = true ∧ ltR (xs (i + 2)) (zo (bs (ix (xs (i + 1))))).val = true ∧ ltR (xs (i + 3)) 13 = true then 0 else 2) else 1) = _
          rw [e8]
        · rw [if_pos rfl, if_pos rfl, if_neg (fun z => cz z.1), if_neg (fun z => cz z.1)]
    refine ⟨r, (va_up s 0 (nI (cdT kn pw ma (xs (i + 1)) (xs (i + 2)) (xs (i + 3))))), fa, si, sr, pu, va, ro, pm, bm, ma, ti, ta, im, sh, un, pv, rfl, rfl, congrArg nI hcd.symm, fun z => ?_, ⟨_, _, _, _, _, _, _, _, _, _, _, _, _, _, _, _, _, _, _, _, _, _, _, _, _, _, _, _, _, _, _, _, _, _, _, _, _, hI, rfl, hS.t0 _⟩⟩
    rw [hw z, hr (hcd ▸ z)]
    obtain ⟨hk1, hk2, hi2, hp2⟩ := cdT_0 (hcd ▸ z)
    obtain ⟨-, -, e3, -, -, e6⟩ := hK hk1
    have hb := (ltR_ix hk2).1
    rw [← e3] at hb
    obtain ⟨-, e7, e8⟩ := e6 _ hb
    exact congrArg Int32.toInt64 (by rw [e8 _ (by rw [e7]; exact (ltR_ix hi2).1) _ (ltR_ix hp2).1])
  obtain ⟨r, s2, fa2, si2, sr2, pu2, va2, ro2, pm2, bm2, ma2, ti2, ta2, im2, sh2, un2, pv2, rfl, rfl, e0, hv, hR2⟩ := key
  refine gr_istore dL_law_827 (by decide) rfl ?_
  refine gr_aload_n dL_law_829 rfl ?_
  refine gr_callV dL_law_830 (c_thrown l E 10 _ A hD.2.1 s2 fa2 si2 sr2 pu2 va2 ro2 pm2 bm2 ma2 ti2 ta2 im2 sh2 un2 pv2) ysX9_thrown ⟨ml_L_82, im_X9_thrown, sl_X9_thrown⟩ (md_0 hD.2.1) (show vwCl[9]? = some (RX9, TX9, _) from rfl) rfl rfl (Nat.le_of_ble_eq_true rfl) ⟨by decide, by decide⟩ ⟨by show _ + 0 ≤ 603072; omega, by show _ + 0 ≤ 7165560; omega⟩ (fun r9 h9 hp8 => ?_)
  obtain ⟨rfl, rfl⟩ := hp8
  refine gr_h (hp_m hD).symm ?_
  refine gr_iload dL_law_833 rfl ?_
  refine gr_icmpeq 840 dL_law_835 (by decide) (fun _ => ?_) (fun z => absurd e0 z)
  refine gr_iload dL_law_840 rfl ?_
  refine gr_ifneN 857 dL_law_842 (by decide) (by omega) (fun ck => ?_) (fun ck => ?_)
  · exact gr_goto 1196 dL_law_857 (by decide) (gr_wide (by omega) (by omega) (kk _ _ _ _ _ hR2))
  · refine gr_aload_n dL_law_845 rfl ?_
    refine gr_iconst (v := nI 0) dL_law_846 rfl ?_
    refine gr_laload dL_law_847 hp_q (by decide) (by decide) ?_
    refine gr_iload dL_law_848 rfl ?_
    refine gr_i2l dL_law_850 rfl ?_
    refine gr_lcmp dL_law_851 (gr_top (congrArg Value.int (lcmp_same (hv ck))) ?_)
    refine gr_ifeqN 857 dL_law_852 (by decide) (by omega) (fun _ => ?_) (fun z => absurd rfl z)
    exact gr_goto 1196 dL_law_857 (by decide) (gr_wide (by omega) (by omega) (kk _ _ _ _ _ hR2))

set_option maxHeartbeats 4000000 in
set_option maxRecDepth 100000 in
theorem op_end (l : Launch) (hl0 : l.stackTraces = false) (E : ga_E) (b L : Nat) (xs : Nat → Int32) (hbE : b < ga_N0 E) (hL : L ≤ 3585) (Z A : Nat → Nat) (q : Nat) (hD : Dj Z A q) (ZZ : List Frame → Array Value → State → State → Prop) (c md : Nat → va_E) (w : Nat → Int64) (hR : RLa E Z A c md) (i : Nat) (hi : i + 7 ≤ L) (x5 x6 : Option Value) (cells slots : Nat) (hcs : cells + 3 ≤ 603072 ∧ slots + 18 ≤ 7165560) (kk : ∀ (c' md' : Nat → va_E) (w' : Nat → Int64) (x5 x6 : Option Value), RLa E Z A c' md' → ga_G l E mL_law room_1 (Zs b L xs ZZ) 1196 [some (.ref b), some (.ref (Z 0)), some (.ref (A 0)), some (.ref q), some (.int (nI i)), x5, x6] [] (HP Z c' A md' q (ga_j E 1 w')) (cells + 3) (slots + 18)) : ga_G l E mL_law room_1 (Zs b L xs ZZ) 998 [some (.ref b), some (.ref (Z 0)), some (.ref (A 0)), some (.ref q), some (.int (nI i)), x5, x6] [] (HP Z c A md q (ga_j E 1 w)) cells slots := by
  obtain ⟨o, F, S, tr, zk, kn, mt, bc, n0, rv, pa, ba, bs, bv, sn, kv, y, zn, zf, cn, cf, s, fa, si, sr, pu, va, ro, pm, bm, ma, ti, ta, im, sh, un, pv, hI, rfl, hS⟩ := hR
  have ho := hS.2.1
  have ho4 := hS.1.1
  have hs5 := hS.2.2.2.2.1
  have hV := hS.2.2.2.2.2.1
  have hs8 := hS.2.2.2.2.2.2.1
  have hzk := hS.2.2.2.2.2.2.2.1
  have hnb := hS.2.2.2.2.2.2.2.2.1
  obtain ⟨nm, mm, pw, hs9, hs11, hs13, hK⟩ := hS.opened
  refine gr_aload_n dL_law_998 rfl ?_
  refine gr_aload_n dL_law_999 rfl ?_
  refine gr_iload dL_law_1000 rfl ?_
  refine gr_iconst (v := nI 1) dL_law_1002 rfl ?_
  refine gr_iaddN dL_law_1003 ?_
  refine gr_sld dL_law_1004 hbE (by omega) hL ?_
  refine gr_aload_n dL_law_1005 rfl ?_
  refine gr_h (hp_c hD) ?_
  refine gr_callSW (n := 3) dL_law_1006 (h_end l E 10 _ (Z 0) q w _ _ 1 6 _ _ (fun r0 h' => ∃ (k : Nat) (c' : Nat → va_E) (w' : Nat → Int64), k < 4 ∧ r0 = some (.int (nI k)) ∧ h' = HP Z c' A (mdC E A s fa si sr pu va ro pm bm ma ti ta im sh pv un) q (ga_j E 1 w') ∧ (c' = c ∧ k = cdP 2 (xs (i + 1)) ∧ (cdP 2 (xs (i + 1)) = 0 → ix (xs (i + 1)) = 0 ∧ (∃ gq, w' 0 = Int32.toInt64 (optI gq) ∧ LeastS F gq) ∨ ix (xs (i + 1)) = 1 ∧ ∃ gq, w' 0 = Int32.toInt64 (optI gq) ∧ GreatS F gq))) (co_ra hD.1 hI) (c_end l hl0 E 2 _ Z hD.1 o F S tr zk kn mt bc n0 rv pa ba bs bv sn kv y zn zf cn cf c hI _) (fun r h' hp => by
    obtain ⟨e, rfl, ⟨e1, gq, rfl, hg⟩ | ⟨e1, gq, rfl, hg⟩⟩ := hp
    · exact ⟨_, rfl, hp_cq hD, 0, c, _, by omega, rfl, hp_cw hD, rfl, e.symm, fun _ => Or.inl ⟨e1, gq, rfl, hg⟩⟩
    · exact ⟨_, rfl, hp_cq hD, 0, c, _, by omega, rfl, hp_cw hD, rfl, e.symm, fun _ => Or.inr ⟨e1, gq, rfl, hg⟩⟩) (fun Y h' hp => ⟨hp.1, 1, c, w, by omega, rfl, hp.2.2.trans (hp_c hD).symm, rfl, hp.2.1.symm, fun z => absurd (hp.2.1.symm.trans z) (by decide)⟩)) cx_L_end wi_L (by decide +kernel) (by decide) ⟨ml_L_130, sm_L_end⟩ rfl rfl (Nat.le_of_ble_eq_true rfl) ⟨by decide, by decide⟩ ⟨by show _ + 1 ≤ 603072; omega, by show _ + 6 ≤ 7165560; omega⟩ (fun r0 h1 hp => ?_)
  obtain ⟨k, c', w', hk4, rfl, rfl, hQ⟩ := hp
  refine gr_istore dL_law_1009 (by decide) rfl ?_
  refine gr_aload_n dL_law_1011 rfl ?_
  refine gr_aload_n dL_law_1012 rfl ?_
  refine gr_iload dL_law_1013 rfl ?_
  refine gr_iconst (v := nI 1) dL_law_1015 rfl ?_
  refine gr_iaddN dL_law_1016 ?_
  refine gr_sld dL_law_1017 hbE (by omega) hL ?_
  refine gr_h (hp_m hD) ?_
  refine gr_callV dL_law_1018 (c_mend l E 9 _ A hD.2.1 s fa si sr pu va ro pm bm ma ti ta im sh un pv o ho ho4 _) ysX9_end ⟨ml_L_132, im_X9_end, sl_X9_end⟩ (md_0 hD.2.1) (show vwCl[9]? = some (RX9, TX9, _) from rfl) rfl rfl (Nat.le_of_ble_eq_true rfl) ⟨by decide, by decide⟩ ⟨by show _ + 0 ≤ 603072; omega, by show _ + 0 ≤ 7165560; omega⟩ (fun r0 h1 hp9 => ?_)
  have key : AM E Z A c' q w' k Int32.toInt64 r0 h1 := by
    obtain ⟨rfl, rfl, hw⟩ := hQ
    rcases hp9 with ⟨ec, rfl, r, rfl⟩ | ⟨ec, rfl, hq⟩
    · exact ⟨r, (va_up s 0 (nI (1))), fa, si, sr, pu, va, ro, pm, bm, ma, ti, ta, im, sh, un, pv, rfl, rfl, congrArg nI ec.symm, fun z => absurd (ec.symm.trans z) (by decide), ⟨_, _, _, _, _, _, _, _, _, _, _, _, _, _, _, _, _, _, _, _, _, _, _, _, _, _, _, _, _, _, _, _, _, _, _, _, _, hI, rfl, hS.t0 _⟩⟩
    · rcases hq with ⟨e1, qm, rfl, hqm⟩ | ⟨e1, qm, rfl, hqm⟩
      · refine ⟨_, (va_up s 0 (nI (0))), fa, si, sr, pu, va, ro, pm, bm, ma, ti, ta, im, sh, un, pv, rfl, rfl, congrArg nI ec.symm, fun z => ?_, ⟨_, _, _, _, _, _, _, _, _, _, _, _, _, _, _, _, _, _, _, _, _, _, _, _, _, _, _, _, _, _, _, _, _, _, _, _, _, hI, rfl, hS.t0 _⟩⟩
        rcases hw ec with ⟨-, qc, e2, hqc⟩ | ⟨e3, -⟩
        · rw [e2, LeM.uniq (hS.1.least hqc) hqm]
        · omega
      · refine ⟨_, (va_up s 0 (nI (0))), fa, si, sr, pu, va, ro, pm, bm, ma, ti, ta, im, sh, un, pv, rfl, rfl, congrArg nI ec.symm, fun z => ?_, ⟨_, _, _, _, _, _, _, _, _, _, _, _, _, _, _, _, _, _, _, _, _, _, _, _, _, _, _, _, _, _, _, _, _, _, _, _, _, hI, rfl, hS.t0 _⟩⟩
        rcases hw ec with ⟨e3, -⟩ | ⟨-, qc, e2, hqc⟩
        · omega
        · rw [e2, hS.gu hqc hqm]
  obtain ⟨r, s2, fa2, si2, sr2, pu2, va2, ro2, pm2, bm2, ma2, ti2, ta2, im2, sh2, un2, pv2, rfl, rfl, e0, hv, hR2⟩ := key
  refine gr_istore dL_law_1021 (by decide) rfl ?_
  refine gr_aload_n dL_law_1023 rfl ?_
  refine gr_callV dL_law_1024 (c_thrown l E 10 _ A hD.2.1 s2 fa2 si2 sr2 pu2 va2 ro2 pm2 bm2 ma2 ti2 ta2 im2 sh2 un2 pv2) ysX9_thrown ⟨ml_L_82, im_X9_thrown, sl_X9_thrown⟩ (md_0 hD.2.1) (show vwCl[9]? = some (RX9, TX9, _) from rfl) rfl rfl (Nat.le_of_ble_eq_true rfl) ⟨by decide, by decide⟩ ⟨by show _ + 0 ≤ 603072; omega, by show _ + 0 ≤ 7165560; omega⟩ (fun r9 h9 hp8 => ?_)
  obtain ⟨rfl, rfl⟩ := hp8
  refine gr_h (hp_m hD).symm ?_
  refine gr_iload dL_law_1027 rfl ?_
  refine gr_icmpeq 1034 dL_law_1029 (by decide) (fun _ => ?_) (fun z => absurd e0 z)
  refine gr_iload dL_law_1034 rfl ?_
  refine gr_ifneN 1051 dL_law_1036 (by decide) (by omega) (fun ck => ?_) (fun ck => ?_)
  · exact gr_goto 1196 dL_law_1051 (by decide) (gr_wide (by omega) (by omega) (kk _ _ _ _ _ hR2))
  · refine gr_aload_n dL_law_1039 rfl ?_
    refine gr_iconst (v := nI 0) dL_law_1040 rfl ?_
    refine gr_laload dL_law_1041 hp_q (by decide) (by decide) ?_
    refine gr_iload dL_law_1042 rfl ?_
    refine gr_i2l dL_law_1044 rfl ?_
    refine gr_lcmp dL_law_1045 (gr_top (congrArg Value.int (lcmp_same (hv ck))) ?_)
    refine gr_ifeqN 1051 dL_law_1046 (by decide) (by omega) (fun _ => ?_) (fun z => absurd rfl z)
    exact gr_goto 1196 dL_law_1051 (by decide) (gr_wide (by omega) (by omega) (kk _ _ _ _ _ hR2))

set_option maxHeartbeats 4000000 in
set_option maxRecDepth 100000 in
theorem op_rest (l : Launch) (hl0 : l.stackTraces = false) (E : ga_E) (b L : Nat) (xs : Nat → Int32) (hbE : b < ga_N0 E) (hL : L ≤ 3585) (Z A : Nat → Nat) (q : Nat) (hD : Dj Z A q) (ZZ : List Frame → Array Value → State → State → Prop) (c md : Nat → va_E) (w : Nat → Int64) (hR : RLa E Z A c md) (i : Nat) (hi : i + 7 ≤ L) (x5 x6 : Option Value) (cells slots : Nat) (hcs : cells + 3 ≤ 603072 ∧ slots + 18 ≤ 7165560) (kk : ∀ (c' md' : Nat → va_E) (w' : Nat → Int64) (x5 x6 : Option Value), RLa E Z A c' md' → ga_G l E mL_law room_1 (Zs b L xs ZZ) 1196 [some (.ref b), some (.ref (Z 0)), some (.ref (A 0)), some (.ref q), some (.int (nI i)), x5, x6] [] (HP Z c' A md' q (ga_j E 1 w')) (cells + 3) (slots + 18)) : ga_G l E mL_law room_1 (Zs b L xs ZZ) 1054 [some (.ref b), some (.ref (Z 0)), some (.ref (A 0)), some (.ref q), some (.int (nI i)), x5, x6] [] (HP Z c A md q (ga_j E 1 w)) cells slots := by
  obtain ⟨o, F, S, tr, zk, kn, mt, bc, n0, rv, pa, ba, bs, bv, sn, kv, y, zn, zf, cn, cf, s, fa, si, sr, pu, va, ro, pm, bm, ma, ti, ta, im, sh, un, pv, hI, rfl, hS⟩ := hR
  have ho := hS.2.1
  have ho4 := hS.1.1
  have hs5 := hS.2.2.2.2.1
  have hV := hS.2.2.2.2.2.1
  have hs8 := hS.2.2.2.2.2.2.1
  have hzk := hS.2.2.2.2.2.2.2.1
  have hnb := hS.2.2.2.2.2.2.2.2.1
  obtain ⟨nm, mm, pw, hs9, hs11, hs13, hK⟩ := hS.opened
  refine gr_aload_n dL_law_1054 rfl ?_
  refine gr_aload_n dL_law_1055 rfl ?_
  refine gr_iload dL_law_1056 rfl ?_
  refine gr_iconst (v := nI 1) dL_law_1058 rfl ?_
  refine gr_iaddN dL_law_1059 ?_
  refine gr_sld dL_law_1060 hbE (by omega) hL ?_
  refine gr_aload_n dL_law_1061 rfl ?_
  refine gr_h (hp_c hD) ?_
  refine gr_callSW (n := 3) dL_law_1062 (h_rest l E 10 _ (Z 0) q w _ _ 1 6 _ _ (fun r0 h' => ∃ (k : Nat) (c' : Nat → va_E) (w' : Nat → Int64), k < 4 ∧ r0 = some (.int (nI k)) ∧ h' = HP Z c' A (mdC E A s fa si sr pu va ro pm bm ma ti ta im sh pv un) q (ga_j E 1 w') ∧ (k = cdP 19 (xs (i + 1)) ∧ (k ≠ 0 → c' = c) ∧ (k = 0 → ∃ C : Nat → Nat → zp, coI E Z c' o F S tr zk kn mt bc n0 rv pa ba bs bv sn kv y zn zf cn cf ∧ (∀ i, i < 19 → ∀ j, j < 14 → C i j = fillK F S 1 5 i j) ∧ w' 0 = Int32.toInt64 (nI (-(C (ix (xs (i + 1))) 13) + zs 13 (fun k => C (ix (xs (i + 1))) k * tr k)).val)))) (co_ra hD.1 hI) (c_rest l hl0 E 2 _ Z hD.1 o F S tr zk kn mt bc n0 rv pa ba bs bv sn kv y zn zf cn cf c hI _) (fun r h' hp => by obtain ⟨e, c2, C, hI2, hC, rfl, rfl⟩ := hp; exact ⟨_, rfl, hp_cq hD, 0, c2, _, by omega, rfl, hp_cw hD, e.symm, fun z => absurd rfl z, fun _ => ⟨C, hI2, hC, rfl⟩⟩) (fun Y h' hp => ⟨hp.1, 1, c, w, by omega, rfl, hp.2.2.trans (hp_c hD).symm, hp.2.1.symm, fun _ => rfl, fun z => absurd z (by omega)⟩)) cx_L_rest wi_L (by decide +kernel) (by decide) ⟨ml_L_133, sm_L_rest⟩ rfl rfl (Nat.le_of_ble_eq_true rfl) ⟨by decide, by decide⟩ ⟨by show _ + 1 ≤ 603072; omega, by show _ + 6 ≤ 7165560; omega⟩ (fun r0 h1 hp => ?_)
  obtain ⟨k, c', w', hk4, rfl, rfl, hQ⟩ := hp
  refine gr_istore dL_law_1065 (by decide) rfl ?_
  refine gr_aload_n dL_law_1067 rfl ?_
  refine gr_aload_n dL_law_1068 rfl ?_
  refine gr_iload dL_law_1069 rfl ?_
  refine gr_iconst (v := nI 1) dL_law_1071 rfl ?_
  refine gr_iaddN dL_law_1072 ?_
  refine gr_sld dL_law_1073 hbE (by omega) hL ?_
  refine gr_h (hp_m hD) ?_
  refine gr_callV dL_law_1074 (c_mrest l E 8 _ A hD.2.1 s fa si sr pu va ro pm bm ma ti ta im sh un pv o ho ho4 _) ysX9_rest ⟨ml_L_135, im_X9_rest, sl_X9_rest⟩ (md_0 hD.2.1) (show vwCl[9]? = some (RX9, TX9, _) from rfl) rfl rfl (Nat.le_of_ble_eq_true rfl) ⟨by decide, by decide⟩ ⟨by show _ + 0 ≤ 603072; omega, by show _ + 0 ≤ 7165560; omega⟩ (fun r0 h1 hp9 => ?_)
  have key : AM E Z A c' q w' k Int32.toInt64 r0 h1 := by
    obtain ⟨rfl, hc0, hc1⟩ := hQ
    rcases hp9 with ⟨ec, rfl, r, rfl⟩ | ⟨ec, im2, sh2, rfl, rfl⟩
    · obtain rfl := hc0 (by rw [ec]; decide)
      exact ⟨r, (va_up s 0 (nI (1))), fa, si, sr, pu, va, ro, pm, bm, ma, ti, ta, im, sh, un, pv, rfl, rfl, congrArg nI ec.symm, fun z => absurd (ec.symm.trans z) (by decide), ⟨_, _, _, _, _, _, _, _, _, _, _, _, _, _, _, _, _, _, _, _, _, _, _, _, _, _, _, _, _, _, _, _, _, _, _, _, _, hI, rfl, hS.t0 _⟩⟩
    · obtain ⟨C, hI2, hC, hw⟩ := hc1 ec
      refine ⟨_, (va_up s 0 (nI (0))), fa, si, sr, pu, va, ro, pm, bm, ma, ti, ta, im2, sh2, un, pv, rfl, rfl, congrArg nI ec.symm, fun z => ?_, ⟨_, _, _, _, _, _, _, _, _, _, _, _, _, _, _, _, _, _, _, _, _, _, _, _, _, _, _, _, _, _, _, _, _, _, _, _, _, hI2, rfl, hS.t0 _⟩⟩
      rw [hw, hS.1.rest hS.2.2.1 hC hS.2.2.2.1 (ltR_ix (cdP_0 ec)).1]
  obtain ⟨r, s2, fa2, si2, sr2, pu2, va2, ro2, pm2, bm2, ma2, ti2, ta2, im2, sh2, un2, pv2, rfl, rfl, e0, hv, hR2⟩ := key
  refine gr_istore dL_law_1077 (by decide) rfl ?_
  refine gr_aload_n dL_law_1079 rfl ?_
  refine gr_callV dL_law_1080 (c_thrown l E 10 _ A hD.2.1 s2 fa2 si2 sr2 pu2 va2 ro2 pm2 bm2 ma2 ti2 ta2 im2 sh2 un2 pv2) ysX9_thrown ⟨ml_L_82, im_X9_thrown, sl_X9_thrown⟩ (md_0 hD.2.1) (show vwCl[9]? = some (RX9, TX9, _) from rfl) rfl rfl (Nat.le_of_ble_eq_true rfl) ⟨by decide, by decide⟩ ⟨by show _ + 0 ≤ 603072; omega, by show _ + 0 ≤ 7165560; omega⟩ (fun r9 h9 hp8 => ?_)
  obtain ⟨rfl, rfl⟩ := hp8
  refine gr_h (hp_m hD).symm ?_
  refine gr_iload dL_law_1083 rfl ?_
  refine gr_icmpeq 1090 dL_law_1085 (by decide) (fun _ => ?_) (fun z => absurd e0 z)
  refine gr_iload dL_law_1090 rfl ?_
  refine gr_ifneN 1107 dL_law_1092 (by decide) (by omega) (fun ck => ?_) (fun ck => ?_)
  · exact gr_goto 1196 dL_law_1107 (by decide) (gr_wide (by omega) (by omega) (kk _ _ _ _ _ hR2))
  · refine gr_aload_n dL_law_1095 rfl ?_
    refine gr_iconst (v := nI 0) dL_law_1096 rfl ?_
    refine gr_laload dL_law_1097 hp_q (by decide) (by decide) ?_
    refine gr_iload dL_law_1098 rfl ?_
    refine gr_i2l dL_law_1100 rfl ?_
    refine gr_lcmp dL_law_1101 (gr_top (congrArg Value.int (lcmp_same (hv ck))) ?_)
    refine gr_ifeqN 1107 dL_law_1102 (by decide) (by omega) (fun _ => ?_) (fun z => absurd rfl z)
    exact gr_goto 1196 dL_law_1107 (by decide) (gr_wide (by omega) (by omega) (kk _ _ _ _ _ hR2))

set_option maxHeartbeats 4000000 in
set_option maxRecDepth 100000 in
theorem op_put (l : Launch) (hl0 : l.stackTraces = false) (E : ga_E) (b L : Nat) (xs : Nat → Int32) (hbE : b < ga_N0 E) (hL : L ≤ 3585) (Z A : Nat → Nat) (q : Nat) (hD : Dj Z A q) (ZZ : List Frame → Array Value → State → State → Prop) (c md : Nat → va_E) (w : Nat → Int64) (hR : RLa E Z A c md) (i : Nat) (hi : i + 7 ≤ L) (x5 x6 : Option Value) (cells slots : Nat) (hcs : cells + 3 ≤ 603072 ∧ slots + 18 ≤ 7165560) (kk : ∀ (c' md' : Nat → va_E) (w' : Nat → Int64) (x5 x6 : Option Value), RLa E Z A c' md' → ga_G l E mL_law room_1 (Zs b L xs ZZ) 1196 [some (.ref b), some (.ref (Z 0)), some (.ref (A 0)), some (.ref q), some (.int (nI i)), x5, x6] [] (HP Z c' A md' q (ga_j E 1 w')) (cells + 3) (slots + 18)) : ga_G l E mL_law room_1 (Zs b L xs ZZ) 1110 [some (.ref b), some (.ref (Z 0)), some (.ref (A 0)), some (.ref q), some (.int (nI i)), x5, x6] [] (HP Z c A md q (ga_j E 1 w)) cells slots := by
  obtain ⟨o, F, S, tr, zk, kn, mt, bc, n0, rv, pa, ba, bs, bv, sn, kv, y, zn, zf, cn, cf, s, fa, si, sr, pu, va, ro, pm, bm, ma, ti, ta, im, sh, un, pv, hI, rfl, hS⟩ := hR
  have ho := hS.2.1
  have ho4 := hS.1.1
  have hs5 := hS.2.2.2.2.1
  have hV := hS.2.2.2.2.2.1
  have hs8 := hS.2.2.2.2.2.2.1
  have hzk := hS.2.2.2.2.2.2.2.1
  have hnb := hS.2.2.2.2.2.2.2.2.1
  obtain ⟨nm, mm, pw, hs9, hs11, hs13, hK⟩ := hS.opened
  refine gr_aload_n dL_law_1110 rfl ?_
  refine gr_aload_n dL_law_1111 rfl ?_
  refine gr_iload dL_law_1112 rfl ?_
  refine gr_iconst (v := nI 1) dL_law_1114 rfl ?_
  refine gr_iaddN dL_law_1115 ?_
  refine gr_sld dL_law_1116 hbE (by omega) hL ?_
  refine gr_aload_n dL_law_1117 rfl ?_
  refine gr_iload dL_law_1118 rfl ?_
  refine gr_iconst (v := nI 2) dL_law_1120 rfl ?_
  refine gr_iaddN dL_law_1121 ?_
  refine gr_sld dL_law_1122 hbE (by omega) hL ?_
  refine gr_aload_n dL_law_1123 rfl ?_
  refine gr_h (hp_c hD) ?_
  refine gr_callSW (n := 4) dL_law_1124 (h_put l E 10 _ (Z 0) q w _ _ _ 1 6 _ _ (fun r0 h' => ∃ (k : Nat) (c' : Nat → va_E) (w' : Nat → Int64), k < 4 ∧ r0 = some (.int (nI k)) ∧ h' = HP Z c' A (mdC E A s fa si sr pu va ro pm bm ma ti ta im sh pv un) q (ga_j E 1 w') ∧ (k = cdP 13 (xs (i + 1)) ∧ (k ≠ 0 → c' = c) ∧ (k = 0 → coI E Z c' o F S (va_up tr (ix (xs (i + 1))) (zL (xs (i + 2)).toInt64)) zk kn mt bc n0 rv pa ba bs bv sn kv y zn zf cn cf ∧ w' 0 = zJ (bI (zne (tr (ix (xs (i + 1)))) (zL (xs (i + 2)).toInt64)))))) (co_ra hD.1 hI) (c_put l hl0 E 2 _ Z hD.1 o F S tr zk kn mt bc n0 rv pa ba bs bv sn kv y zn zf cn cf c hI _ _) (fun r h' hp => by obtain ⟨e, c2, hI2, rfl, rfl⟩ := hp; exact ⟨_, rfl, hp_cq hD, 0, c2, _, by omega, rfl, hp_cw hD, e.symm, fun z => absurd rfl z, fun _ => ⟨hI2, rfl⟩⟩) (fun Y h' hp => ⟨hp.1, 1, c, w, by omega, rfl, hp.2.2.trans (hp_c hD).symm, hp.2.1.symm, fun _ => rfl, fun z => absurd z (by omega)⟩)) cx_L_put wi_L (by decide +kernel) (by decide) ⟨ml_L_136, sm_L_put⟩ rfl rfl (Nat.le_of_ble_eq_true rfl) ⟨by decide, by decide⟩ ⟨by show _ + 1 ≤ 603072; omega, by show _ + 6 ≤ 7165560; omega⟩ (fun r0 h1 hp => ?_)
  obtain ⟨k, c', w', hk4, rfl, rfl, hQ⟩ := hp
  refine gr_istore dL_law_1127 (by decide) rfl ?_
  refine gr_aload_n dL_law_1129 rfl ?_
  refine gr_aload_n dL_law_1130 rfl ?_
  refine gr_iload dL_law_1131 rfl ?_
  refine gr_iconst (v := nI 1) dL_law_1133 rfl ?_
  refine gr_iaddN dL_law_1134 ?_
  refine gr_sld dL_law_1135 hbE (by omega) hL ?_
  refine gr_aload_n dL_law_1136 rfl ?_
  refine gr_iload dL_law_1137 rfl ?_
  refine gr_iconst (v := nI 2) dL_law_1139 rfl ?_
  refine gr_iaddN dL_law_1140 ?_
  refine gr_sld dL_law_1141 hbE (by omega) hL ?_
  refine gr_h (hp_m hD) ?_
  refine gr_callV dL_law_1142 (c_mput l E 9 _ A hD.2.1 s fa si sr pu va ro pm bm ma ti ta im sh un pv _ _) ysX9_put ⟨ml_L_138, im_X9_put, sl_X9_put⟩ (md_0 hD.2.1) (show vwCl[9]? = some (RX9, TX9, _) from rfl) rfl rfl (Nat.le_of_ble_eq_true rfl) ⟨by decide, by decide⟩ ⟨by show _ + 0 ≤ 603072; omega, by show _ + 0 ≤ 7165560; omega⟩ (fun r0 h1 hp9 => ?_)
  have key : AM E Z A c' q w' k zJ r0 h1 := by
    obtain ⟨rfl, hc0, hc1⟩ := hQ
    rcases hp9 with ⟨ec, rfl, r, rfl⟩ | ⟨ec, rfl, rfl⟩
    · obtain rfl := hc0 (by rw [ec]; decide)
      exact ⟨r, (va_up s 0 (nI (1))), fa, si, sr, pu, va, ro, pm, bm, ma, ti, ta, im, sh, un, pv, rfl, rfl, congrArg nI ec.symm, fun z => absurd (ec.symm.trans z) (by decide), ⟨_, _, _, _, _, _, _, _, _, _, _, _, _, _, _, _, _, _, _, _, _, _, _, _, _, _, _, _, _, _, _, _, _, _, _, _, _, hI, rfl, hS.t0 _⟩⟩
    · obtain ⟨hI2, hw⟩ := hc1 ec
      refine ⟨_, (va_up s 0 (nI (0))), fa, si, sr, (va_up pu (ix (xs (i + 1))) (zL (xs (i + 2)).toInt64)), va, ro, pm, bm, ma, ti, ta, im, sh, un, pv, rfl, rfl, congrArg nI ec.symm, fun z => ?_, ⟨_, _, _, _, _, _, _, _, _, _, _, _, _, _, _, _, _, _, _, _, _, _, _, _, _, _, _, _, _, _, _, _, _, _, _, _, _, hI2, rfl, hS.put _ _⟩⟩
      rw [hw, hS.2.2.2.1 _ (ltR_ix (cdP_0 ec)).1]
  obtain ⟨r, s2, fa2, si2, sr2, pu2, va2, ro2, pm2, bm2, ma2, ti2, ta2, im2, sh2, un2, pv2, rfl, rfl, e0, hv, hR2⟩ := key
  refine gr_istore dL_law_1145 (by decide) rfl ?_
  refine gr_aload_n dL_law_1147 rfl ?_
  refine gr_callV dL_law_1148 (c_thrown l E 10 _ A hD.2.1 s2 fa2 si2 sr2 pu2 va2 ro2 pm2 bm2 ma2 ti2 ta2 im2 sh2 un2 pv2) ysX9_thrown ⟨ml_L_82, im_X9_thrown, sl_X9_thrown⟩ (md_0 hD.2.1) (show vwCl[9]? = some (RX9, TX9, _) from rfl) rfl rfl (Nat.le_of_ble_eq_true rfl) ⟨by decide, by decide⟩ ⟨by show _ + 0 ≤ 603072; omega, by show _ + 0 ≤ 7165560; omega⟩ (fun r9 h9 hp8 => ?_)
  obtain ⟨rfl, rfl⟩ := hp8
  refine gr_h (hp_m hD).symm ?_
  refine gr_iload dL_law_1151 rfl ?_
  refine gr_icmpeq 1158 dL_law_1153 (by decide) (fun _ => ?_) (fun z => absurd e0 z)
  refine gr_iload dL_law_1158 rfl ?_
  refine gr_ifneN 1182 dL_law_1160 (by decide) (by omega) (fun ck => ?_) (fun ck => ?_)
  · exact gr_goto 1196 dL_law_1182 (by decide) (gr_wide (by omega) (by omega) (kk _ _ _ _ _ hR2))
  · refine gr_aload_n dL_law_1163 rfl ?_
    refine gr_iconst (v := nI 0) dL_law_1164 rfl ?_
    refine gr_laload dL_law_1165 hp_q (by decide) (by decide) ?_
    refine gr_iload dL_law_1166 rfl ?_
    refine gr_ifeq 1175 dL_law_1168 (by decide) (fun cz => ?_) (fun cz => ?_)
    · refine gr_lconst (v := lN 0) dL_law_1175 rfl ?_
      refine gr_lcmp dL_law_1176 (gr_top (congrArg Value.int (lcmp_same (by have e := hv ck; unfold zJ at e; rwa [if_pos cz] at e))) ?_)
      refine gr_ifeqN 1182 dL_law_1177 (by decide) (by omega) (fun _ => ?_) (fun z => absurd rfl z)
      exact gr_goto 1196 dL_law_1182 (by decide) (gr_wide (by omega) (by omega) (kk _ _ _ _ _ hR2))
    · refine gr_lconst (v := lN 1) dL_law_1171 rfl (gr_goto 1176 dL_law_1172 (by decide) ?_)
      refine gr_lcmp dL_law_1176 (gr_top (congrArg Value.int (lcmp_same (by have e := hv ck; unfold zJ at e; rwa [if_neg cz] at e))) ?_)
      refine gr_ifeqN 1182 dL_law_1177 (by decide) (by omega) (fun _ => ?_) (fun z => absurd rfl z)
      exact gr_goto 1196 dL_law_1182 (by decide) (gr_wide (by omega) (by omega) (kk _ _ _ _ _ hR2))

set_option maxHeartbeats 4000000 in
set_option maxRecDepth 100000 in
theorem op_value (l : Launch) (hl0 : l.stackTraces = false) (E : ga_E) (b L : Nat) (xs : Nat → Int32) (hbE : b < ga_N0 E) (hL : L ≤ 3585) (Z A : Nat → Nat) (q : Nat) (hD : Dj Z A q) (ZZ : List Frame → Array Value → State → State → Prop) (c md : Nat → va_E) (w : Nat → Int64) (hR : RLa E Z A c md) (i : Nat) (hi : i + 7 ≤ L) (x5 x6 : Option Value) (cells slots : Nat) (hcs : cells + 3 ≤ 603072 ∧ slots + 18 ≤ 7165560) (kk : ∀ (c' md' : Nat → va_E) (w' : Nat → Int64) (x5 x6 : Option Value), RLa E Z A c' md' → ga_G l E mL_law room_1 (Zs b L xs ZZ) 1196 [some (.ref b), some (.ref (Z 0)), some (.ref (A 0)), some (.ref q), some (.int (nI i)), x5, x6] [] (HP Z c' A md' q (ga_j E 1 w')) (cells + 3) (slots + 18)) : ga_G l E mL_law room_1 (Zs b L xs ZZ) 917 [some (.ref b), some (.ref (Z 0)), some (.ref (A 0)), some (.ref q), some (.int (nI i)), x5, x6] [] (HP Z c A md q (ga_j E 1 w)) cells slots := by
  obtain ⟨o, F, S, tr, zk, kn, mt, bc, n0, rv, pa, ba, bs, bv, sn, kv, y, zn, zf, cn, cf, s, fa, si, sr, pu, va, ro, pm, bm, ma, ti, ta, im, sh, un, pv, hI, rfl, hS⟩ := hR
  have ho := hS.2.1
  have ho4 := hS.1.1
  have hs5 := hS.2.2.2.2.1
  have hV := hS.2.2.2.2.2.1
  have hs8 := hS.2.2.2.2.2.2.1
  have hzk := hS.2.2.2.2.2.2.2.1
  have hnb := hS.2.2.2.2.2.2.2.2.1
  obtain ⟨nm, mm, pw, hs9, hs11, hs13, hK⟩ := hS.opened
  refine gr_aload_n dL_law_917 rfl ?_
  refine gr_aload_n dL_law_918 rfl ?_
  refine gr_iload dL_law_919 rfl ?_
  refine gr_iconst (v := nI 1) dL_law_921 rfl ?_
  refine gr_iaddN dL_law_922 ?_
  refine gr_sld dL_law_923 hbE (by omega) hL ?_
  refine gr_aload_n dL_law_924 rfl ?_
  refine gr_h (hp_c hD) ?_
  refine gr_callSW (n := 3) dL_law_925 (h_value l E 10 _ (Z 0) q w _ _ 1 6 _ _ (fun r0 h' => ∃ (k : Nat) (c' : Nat → va_E) (w' : Nat → Int64), k < 4 ∧ r0 = some (.int (nI k)) ∧ h' = HP Z c' A (mdC E A s fa si sr pu va ro pm bm ma ti ta im sh pv un) q (ga_j E 1 w') ∧ (k = cdP 301 (xs (i + 1)) ∧ (k ≠ 0 → c' = c) ∧ (k = 0 → ∃ gq, GreatS F gq ∧ ((gq = none ∨ ∃ g, gq = some g ∧ sn < g) ∧ c' = c ∧ w' 0 = Int32.toInt64 (-1) ∨ ∃ g, gq = some g ∧ g ≤ sn ∧ coI E Z c' o F S tr zk kn mt bc n0 rv pa ba bs bv sn (vaR F S g (ix (xs (i + 1)) + 1 - kv) kv y).2.1 (vaR F S g (ix (xs (i + 1)) + 1 - kv) kv y).2.2 zn zf cn cf ∧ w' 0 = Int32.toInt64 (if (vaR F S g (ix (xs (i + 1)) + 1 - kv) kv y).1 = true then nI ((vaR F S g (ix (xs (i + 1)) + 1 - kv) kv y).2.2 (ix (xs (i + 1)))).val else -1))))) (co_ra hD.1 hI) (c_value l hl0 E 2 _ Z hD.1 o F S tr zk kn mt bc n0 rv pa ba bs bv sn kv y zn zf cn cf c hI hV.2.1 hV.2.2.1 _) (fun r h' hp => by
    obtain ⟨e, gq, hgq, ⟨hA, rfl, rfl⟩ | ⟨g, hg, hgs, c2, hI2, rfl, rfl⟩⟩ := hp
    · exact ⟨_, rfl, hp_cq hD, 0, c, _, by omega, rfl, hp_cw hD, e.symm, fun z => absurd rfl z, fun _ => ⟨gq, hgq, Or.inl ⟨hA, rfl, rfl⟩⟩⟩
    · exact ⟨_, rfl, hp_cq hD, 0, c2, _, by omega, rfl, hp_cw hD, e.symm, fun z => absurd rfl z, fun _ => ⟨gq, hgq, Or.inr ⟨g, hg, hgs, hI2, rfl⟩⟩⟩) (fun Y h' hp => ⟨hp.1, 1, c, w, by omega, rfl, hp.2.2.trans (hp_c hD).symm, hp.2.1.symm, fun _ => rfl, fun z => absurd z (by omega)⟩)) cx_L_value wi_L (by decide +kernel) (by decide) ⟨ml_L_123, sm_L_value⟩ rfl rfl (Nat.le_of_ble_eq_true rfl) ⟨by decide, by decide⟩ ⟨by show _ + 1 ≤ 603072; omega, by show _ + 6 ≤ 7165560; omega⟩ (fun r0 h1 hp => ?_)
  obtain ⟨k, c', w', hk4, rfl, rfl, hQ⟩ := hp
  refine gr_istore dL_law_928 (by decide) rfl ?_
  refine gr_aload_n dL_law_930 rfl ?_
  refine gr_aload_n dL_law_931 rfl ?_
  refine gr_iload dL_law_932 rfl ?_
  refine gr_iconst (v := nI 1) dL_law_934 rfl ?_
  refine gr_iaddN dL_law_935 ?_
  refine gr_sld dL_law_936 hbE (by omega) hL ?_
  refine gr_h (hp_m hD) ?_
  refine gr_callV dL_law_937 (c_mvalue l E 9 _ A hD.2.1 s fa si sr pu va ro pm bm ma ti ta im sh un pv o ho ho4 sn hs5 hV.1 _) ysX9_value ⟨ml_L_125, im_X9_value, sl_X9_value⟩ (md_0 hD.2.1) (show vwCl[9]? = some (RX9, TX9, _) from rfl) rfl rfl (Nat.le_of_ble_eq_true rfl) ⟨by decide, by decide⟩ ⟨by show _ + 0 ≤ 603072; omega, by show _ + 0 ≤ 7165560; omega⟩ (fun r0 h1 hp9 => ?_)
  have key : AM E Z A c' q w' k Int32.toInt64 r0 h1 := by
    obtain ⟨rfl, hc0, hc1⟩ := hQ
    rcases hp9 with ⟨ec, rfl, r, rfl⟩ | ⟨ec, ⟨va2, rfl⟩, qm, hqm, hq2⟩
    · obtain rfl := hc0 (by rw [ec]; decide)
      exact ⟨r, (va_up s 0 (nI (1))), fa, si, sr, pu, va, ro, pm, bm, ma, ti, ta, im, sh, un, pv, rfl, rfl, congrArg nI ec.symm, fun z => absurd (ec.symm.trans z) (by decide), ⟨_, _, _, _, _, _, _, _, _, _, _, _, _, _, _, _, _, _, _, _, _, _, _, _, _, _, _, _, _, _, _, _, _, _, _, _, _, hI, rfl, hS.t0 _⟩⟩
    · obtain ⟨gq, hgq, hw⟩ := hc1 ec
      have eq := hS.gu hgq hqm
      subst eq
      rcases hw with ⟨hA, rfl, hw⟩ | ⟨g, rfl, hgs, hI2, hw⟩
      · rcases hq2 with ⟨-, rfl⟩ | ⟨g, rfl, hgs, -⟩
        · exact ⟨_, (va_up s 0 (nI (0))), fa, si, sr, pu, va2, ro, pm, bm, ma, ti, ta, im, sh, un, pv, rfl, rfl, congrArg nI ec.symm, fun z => hw, ⟨_, _, _, _, _, _, _, _, _, _, _, _, _, _, _, _, _, _, _, _, _, _, _, _, _, _, _, _, _, _, _, _, _, _, _, _, _, hI, rfl, hS.t0 _⟩⟩
        · rcases hA with hA | ⟨g', hA, hA2⟩
          · cases hA
          · cases hA; omega
      · rcases hq2 with ⟨hA, -⟩ | ⟨g', e9, hgs', rfl⟩
        · rcases hA with hA | ⟨g', hA, hA2⟩
          · cases hA
          · cases hA; omega
        · cases e9
          obtain ⟨hS2, ev2⟩ := hS.val hgq hgs (n := ix (xs (i + 1))) (ltR_ix (cdP_0 ec)).1
          exact ⟨_, (va_up s 0 (nI (0))), fa, si, sr, pu, va2, ro, pm, bm, ma, ti, ta, im, sh, un, pv, rfl, rfl, congrArg nI ec.symm, fun z => hw.trans (congrArg Int32.toInt64 ev2), ⟨_, _, _, _, _, _, _, _, _, _, _, _, _, _, _, _, _, _, _, _, _, _, _, _, _, _, _, _, _, _, _, _, _, _, _, _, _, hI2, rfl, hS2⟩⟩
  obtain ⟨r, s2, fa2, si2, sr2, pu2, va2, ro2, pm2, bm2, ma2, ti2, ta2, im2, sh2, un2, pv2, rfl, rfl, e0, hv, hR2⟩ := key
  refine gr_istore dL_law_940 (by decide) rfl ?_
  refine gr_aload_n dL_law_942 rfl ?_
  refine gr_callV dL_law_943 (c_thrown l E 10 _ A hD.2.1 s2 fa2 si2 sr2 pu2 va2 ro2 pm2 bm2 ma2 ti2 ta2 im2 sh2 un2 pv2) ysX9_thrown ⟨ml_L_82, im_X9_thrown, sl_X9_thrown⟩ (md_0 hD.2.1) (show vwCl[9]? = some (RX9, TX9, _) from rfl) rfl rfl (Nat.le_of_ble_eq_true rfl) ⟨by decide, by decide⟩ ⟨by show _ + 0 ≤ 603072; omega, by show _ + 0 ≤ 7165560; omega⟩ (fun r9 h9 hp8 => ?_)
  obtain ⟨rfl, rfl⟩ := hp8
  refine gr_h (hp_m hD).symm ?_
  refine gr_iload dL_law_946 rfl ?_
  refine gr_icmpeq 953 dL_law_948 (by decide) (fun _ => ?_) (fun z => absurd e0 z)
  refine gr_iload dL_law_953 rfl ?_
  refine gr_ifneN 970 dL_law_955 (by decide) (by omega) (fun ck => ?_) (fun ck => ?_)
  · exact gr_goto 1196 dL_law_970 (by decide) (gr_wide (by omega) (by omega) (kk _ _ _ _ _ hR2))
  · refine gr_aload_n dL_law_958 rfl ?_
    refine gr_iconst (v := nI 0) dL_law_959 rfl ?_
    refine gr_laload dL_law_960 hp_q (by decide) (by decide) ?_
    refine gr_iload dL_law_961 rfl ?_
    refine gr_i2l dL_law_963 rfl ?_
    refine gr_lcmp dL_law_964 (gr_top (congrArg Value.int (lcmp_same (hv ck))) ?_)
    refine gr_ifeqN 970 dL_law_965 (by decide) (by omega) (fun _ => ?_) (fun z => absurd rfl z)
    exact gr_goto 1196 dL_law_970 (by decide) (gr_wide (by omega) (by omega) (kk _ _ _ _ _ hR2))

set_option maxHeartbeats 4000000 in
set_option maxRecDepth 100000 in
theorem op_factor (l : Launch) (hl0 : l.stackTraces = false) (E : ga_E) (b L : Nat) (xs : Nat → Int32) (hbE : b < ga_N0 E) (hL : L ≤ 3585) (Z A : Nat → Nat) (q : Nat) (hD : Dj Z A q) (ZZ : List Frame → Array Value → State → State → Prop) (c md : Nat → va_E) (w : Nat → Int64) (hR : RLa E Z A c md) (i : Nat) (hi : i + 7 ≤ L) (x5 x6 : Option Value) (cells slots : Nat) (hcs : cells + 3 ≤ 603072 ∧ slots + 18 ≤ 7165560) (kk : ∀ (c' md' : Nat → va_E) (w' : Nat → Int64) (x5 x6 : Option Value), RLa E Z A c' md' → ga_G l E mL_law room_1 (Zs b L xs ZZ) 1196 [some (.ref b), some (.ref (Z 0)), some (.ref (A 0)), some (.ref q), some (.int (nI i)), x5, x6] [] (HP Z c' A md' q (ga_j E 1 w')) (cells + 3) (slots + 18)) : ga_G l E mL_law room_1 (Zs b L xs ZZ) 132 [some (.ref b), some (.ref (Z 0)), some (.ref (A 0)), some (.ref q), some (.int (nI i)), x5, x6] [] (HP Z c A md q (ga_j E 1 w)) cells slots := by
  obtain ⟨o, F, S, tr, zk, kn, mt, bc, n0, rv, pa, ba, bs, bv, sn, kv, y, zn, zf, cn, cf, s, fa, si, sr, pu, va, ro, pm, bm, ma, ti, ta, im, sh, un, pv, hI, rfl, hS⟩ := hR
  have ho := hS.2.1
  have ho4 := hS.1.1
  have hs5 := hS.2.2.2.2.1
  have hV := hS.2.2.2.2.2.1
  have hs8 := hS.2.2.2.2.2.2.1
  have hzk := hS.2.2.2.2.2.2.2.1
  have hnb := hS.2.2.2.2.2.2.2.2.1
  obtain ⟨nm, mm, pw, hs9, hs11, hs13, hK⟩ := hS.opened
  refine gr_aload_n dL_law_132 rfl ?_
  refine gr_aload_n dL_law_133 rfl ?_
  refine gr_iload dL_law_134 rfl ?_
  refine gr_iconst (v := nI 1) dL_law_136 rfl ?_
  refine gr_iaddN dL_law_137 ?_
  refine gr_sld dL_law_138 hbE (by omega) hL ?_
  refine gr_aload_n dL_law_139 rfl ?_
  refine gr_iload dL_law_140 rfl ?_
  refine gr_iconst (v := nI 2) dL_law_142 rfl ?_
  refine gr_iaddN dL_law_143 ?_
  refine gr_sld dL_law_144 hbE (by omega) hL ?_
  refine gr_aload_n dL_law_145 rfl ?_
  refine gr_iload dL_law_146 rfl ?_
  refine gr_iconst (v := nI 3) dL_law_148 rfl ?_
  refine gr_iaddN dL_law_149 ?_
  refine gr_sld dL_law_150 hbE (by omega) hL ?_
  refine gr_i2l dL_law_151 rfl ?_
  refine gr_bipush (v := nI 32) dL_law_152 (by decide) ?_
  refine gr_lshl dL_law_154 ?_
  refine gr_aload_n dL_law_155 rfl ?_
  refine gr_iload dL_law_156 rfl ?_
  refine gr_iconst (v := nI 4) dL_law_158 rfl ?_
  refine gr_iaddN dL_law_159 ?_
  refine gr_sld dL_law_160 hbE (by omega) hL ?_
  refine gr_i2l dL_law_161 rfl ?_
  refine gr_ldc2 dL_law_162 kl_L_76 ?_
  refine gr_land dL_law_165 ?_
  refine gr_lor dL_law_166 ?_
  refine gr_aload_n dL_law_167 rfl ?_
  refine gr_iload dL_law_168 rfl ?_
  refine gr_iconst (v := nI 5) dL_law_170 rfl ?_
  refine gr_iaddN dL_law_171 ?_
  refine gr_sld dL_law_172 hbE (by omega) hL ?_
  refine gr_i2l dL_law_173 rfl ?_
  refine gr_bipush (v := nI 32) dL_law_174 (by decide) ?_
  refine gr_lshl dL_law_176 ?_
  refine gr_aload_n dL_law_177 rfl ?_
  refine gr_iload dL_law_178 rfl ?_
  refine gr_bipush (v := nI 6) dL_law_180 (by decide) ?_
  refine gr_iaddN dL_law_182 ?_
  refine gr_sld dL_law_183 hbE (by omega) hL ?_
  refine gr_i2l dL_law_184 rfl ?_
  refine gr_ldc2 dL_law_185 kl_L_76 ?_
  refine gr_land dL_law_188 ?_
  refine gr_lor dL_law_189 ?_
  refine gr_aload_n dL_law_190 rfl ?_
  refine gr_h (hp_c hD) ?_
  refine gr_callSW (n := 6) dL_law_191 (h_factor l E 10 _ (Z 0) q w _ _ _ _ _ 1 6 _ _ (fun r0 h' => ∃ (k : Nat) (c' : Nat → va_E) (w' : Nat → Int64), k < 4 ∧ r0 = some (.int (nI k)) ∧ h' = HP Z c' A (mdC E A s fa si sr pu va ro pm bm ma ti ta im sh pv un) q (ga_j E 1 w') ∧ (k = cdF o (xs (i + 1)) (xs (i + 2)) (zL ((xs (i + 5)).toInt64 <<< ((nI 32).toInt64 &&& 63) ||| ((xs (i + 6)).toInt64 &&& 4294967295))) ∧ (k ≠ 0 → c' = c) ∧ (k = 0 → F (ix (xs (i + 1))) (ix (xs (i + 2))) = (zL ((xs (i + 3)).toInt64 <<< ((nI 32).toInt64 &&& 63) ||| ((xs (i + 4)).toInt64 &&& 4294967295)) * zinv (zL ((xs (i + 5)).toInt64 <<< ((nI 32).toInt64 &&& 63) ||| ((xs (i + 6)).toInt64 &&& 4294967295)))) ∧ c' = c ∧ w' 0 = zJ (nI 0) ∨ F (ix (xs (i + 1))) (ix (xs (i + 2))) ≠ (zL ((xs (i + 3)).toInt64 <<< ((nI 32).toInt64 &&& 63) ||| ((xs (i + 4)).toInt64 &&& 4294967295)) * zinv (zL ((xs (i + 5)).toInt64 <<< ((nI 32).toInt64 &&& 63) ||| ((xs (i + 6)).toInt64 &&& 4294967295)))) ∧ coI E Z c' o (va_up F (ix (xs (i + 1))) (va_up (F (ix (xs (i + 1)))) (ix (xs (i + 2))) (zL ((xs (i + 3)).toInt64 <<< ((nI 32).toInt64 &&& 63) ||| ((xs (i + 4)).toInt64 &&& 4294967295)) * zinv (zL ((xs (i + 5)).toInt64 <<< ((nI 32).toInt64 &&& 63) ||| ((xs (i + 6)).toInt64 &&& 4294967295)))))) S tr false false mt bc n0 rv pa ba bs bv sn sn y zn zf cn cf ∧ w' 0 = zJ (nI 1)))) (co_ra hD.1 hI) (c_factor l hl0 E 2 _ Z hD.1 o F S tr zk kn mt bc n0 rv pa ba bs bv sn kv y zn zf cn cf c hI ho4 _ _ _ _) (fun r h' hp => by
    obtain ⟨e, ⟨e1, rfl, rfl⟩ | ⟨e1, c2, hI2, rfl, rfl⟩⟩ := hp
    · exact ⟨_, rfl, hp_cq hD, 0, c, _, by omega, rfl, hp_cw hD, e.symm, fun z => absurd rfl z, fun _ => Or.inl ⟨e1, rfl, rfl⟩⟩
    · exact ⟨_, rfl, hp_cq hD, 0, c2, _, by omega, rfl, hp_cw hD, e.symm, fun z => absurd rfl z, fun _ => Or.inr ⟨e1, hI2, rfl⟩⟩) (fun Y h' hp => hp.2.elim (fun e => Or.inl ⟨e.1, 1, c, w, by omega, rfl, hp.1.trans (hp_c hD).symm, e.2.symm, fun _ => rfl, fun z => absurd z (by omega)⟩) (fun e => e.elim (fun e => Or.inr (Or.inl ⟨e.1, 2, c, w, by omega, rfl, hp.1.trans (hp_c hD).symm, e.2.symm, fun _ => rfl, fun z => absurd z (by omega)⟩)) (fun e => Or.inr (Or.inr ⟨e.1, 3, c, w, by omega, rfl, hp.1.trans (hp_c hD).symm, e.2.symm, fun _ => rfl, fun z => absurd z (by omega)⟩))))) cx_L_factor wi_L (by decide +kernel) (by decide) ⟨ml_L_78, sm_L_factor⟩ rfl rfl (Nat.le_of_ble_eq_true rfl) ⟨by decide, by decide⟩ ⟨by show _ + 1 ≤ 603072; omega, by show _ + 6 ≤ 7165560; omega⟩ (fun r0 h1 hp => ?_)
  obtain ⟨k, c', w', hk4, rfl, rfl, hQ⟩ := hp
  refine gr_istore dL_law_194 (by decide) rfl ?_
  refine gr_aload_n dL_law_196 rfl ?_
  refine gr_aload_n dL_law_197 rfl ?_
  refine gr_iload dL_law_198 rfl ?_
  refine gr_iconst (v := nI 1) dL_law_200 rfl ?_
  refine gr_iaddN dL_law_201 ?_
  refine gr_sld dL_law_202 hbE (by omega) hL ?_
  refine gr_aload_n dL_law_203 rfl ?_
  refine gr_iload dL_law_204 rfl ?_
  refine gr_iconst (v := nI 2) dL_law_206 rfl ?_
  refine gr_iaddN dL_law_207 ?_
  refine gr_sld dL_law_208 hbE (by omega) hL ?_
  refine gr_aload_n dL_law_209 rfl ?_
  refine gr_iload dL_law_210 rfl ?_
  refine gr_iconst (v := nI 3) dL_law_212 rfl ?_
  refine gr_iaddN dL_law_213 ?_
  refine gr_sld dL_law_214 hbE (by omega) hL ?_
  refine gr_i2l dL_law_215 rfl ?_
  refine gr_bipush (v := nI 32) dL_law_216 (by decide) ?_
  refine gr_lshl dL_law_218 ?_
  refine gr_aload_n dL_law_219 rfl ?_
  refine gr_iload dL_law_220 rfl ?_
  refine gr_iconst (v := nI 4) dL_law_222 rfl ?_
  refine gr_iaddN dL_law_223 ?_
  refine gr_sld dL_law_224 hbE (by omega) hL ?_
  refine gr_i2l dL_law_225 rfl ?_
  refine gr_ldc2 dL_law_226 kl_L_76 ?_
  refine gr_land dL_law_229 ?_
  refine gr_lor dL_law_230 ?_
  refine gr_aload_n dL_law_231 rfl ?_
  refine gr_iload dL_law_232 rfl ?_
  refine gr_iconst (v := nI 5) dL_law_234 rfl ?_
  refine gr_iaddN dL_law_235 ?_
  refine gr_sld dL_law_236 hbE (by omega) hL ?_
  refine gr_i2l dL_law_237 rfl ?_
  refine gr_bipush (v := nI 32) dL_law_238 (by decide) ?_
  refine gr_lshl dL_law_240 ?_
  refine gr_aload_n dL_law_241 rfl ?_
  refine gr_iload dL_law_242 rfl ?_
  refine gr_bipush (v := nI 6) dL_law_244 (by decide) ?_
  refine gr_iaddN dL_law_246 ?_
  refine gr_sld dL_law_247 hbE (by omega) hL ?_
  refine gr_i2l dL_law_248 rfl ?_
  refine gr_ldc2 dL_law_249 kl_L_76 ?_
  refine gr_land dL_law_252 ?_
  refine gr_lor dL_law_253 ?_
  refine gr_h (hp_m hD) ?_
  refine gr_callV dL_law_254 (c_mfactor l E 9 _ A hD.2.1 s fa si sr pu va ro pm bm ma ti ta im sh un pv o ho ho4 _ _ _ _) ysX9_factor ⟨ml_L_81, im_X9_factor, sl_X9_factor⟩ (md_0 hD.2.1) (show vwCl[9]? = some (RX9, TX9, _) from rfl) rfl rfl (Nat.le_of_ble_eq_true rfl) ⟨by decide, by decide⟩ ⟨by show _ + 0 ≤ 603072; omega, by show _ + 0 ≤ 7165560; omega⟩ (fun r0 h1 hp9 => ?_)
  have key : AM E Z A c' q w' k zJ r0 h1 := by
    obtain ⟨rfl, hc0, hc1⟩ := hQ
    rcases hp9 with ⟨ec, rfl, r, rfl⟩ | ⟨ec, rfl, rfl⟩
    · obtain rfl := hc0 ec
      exact ⟨r, (va_up s 0 (nI (cdF o (xs (i + 1)) (xs (i + 2)) (zL ((xs (i + 5)).toInt64 <<< ((nI 32).toInt64 &&& 63) ||| ((xs (i + 6)).toInt64 &&& 4294967295)))))), fa, si, sr, pu, va, ro, pm, bm, ma, ti, ta, im, sh, un, pv, rfl, rfl, rfl, fun z => absurd z ec, ⟨_, _, _, _, _, _, _, _, _, _, _, _, _, _, _, _, _, _, _, _, _, _, _, _, _, _, _, _, _, _, _, _, _, _, _, _, _, hI, rfl, hS.t0 _⟩⟩
    · have el : F (ix (xs (i + 1))) (ix (xs (i + 2))) = fa (7 * ix (xs (i + 1)) + ix (xs (i + 2))) := hS.1.2.1 _ (by have := (ltR_ix (cdF_0 ec).1).1; omega) _ (ltR_ix (cdF_0 ec).2).1
      rcases hc1 ec with ⟨e1, rfl, hw⟩ | ⟨e1, hI2, hw⟩
      · have ez : zne (fa (7 * ix (xs (i + 1)) + ix (xs (i + 2)))) (zL ((xs (i + 3)).toInt64 <<< ((nI 32).toInt64 &&& 63) ||| ((xs (i + 4)).toInt64 &&& 4294967295)) * zinv (zL ((xs (i + 5)).toInt64 <<< ((nI 32).toInt64 &&& 63) ||| ((xs (i + 6)).toInt64 &&& 4294967295)))) = false := zne_f (congrArg Fin.val (el.symm.trans e1))
        rw [ez, va_same (el.symm.trans e1)]
        exact ⟨_, (va_up s 0 (nI (0))), fa, si, sr, pu, va, ro, pm, bm, ma, ti, ta, im, sh, un, pv, rfl, rfl, congrArg nI ec.symm, fun z => hw, ⟨_, _, _, _, _, _, _, _, _, _, _, _, _, _, _, _, _, _, _, _, _, _, _, _, _, _, _, _, _, _, _, _, _, _, _, _, _, hI, rfl, hS.t0 _⟩⟩
      · have ez : zne (fa (7 * ix (xs (i + 1)) + ix (xs (i + 2)))) (zL ((xs (i + 3)).toInt64 <<< ((nI 32).toInt64 &&& 63) ||| ((xs (i + 4)).toInt64 &&& 4294967295)) * zinv (zL ((xs (i + 5)).toInt64 <<< ((nI 32).toInt64 &&& 63) ||| ((xs (i + 6)).toInt64 &&& 4294967295)))) = true := zne_t (fun z => e1 (el.trans (Fin.ext z)))
        rw [ez, if_pos rfl]
        exact ⟨_, (va_up (va_up s 0 (nI 0)) 8 (nI 0)), (va_up fa (7 * ix (xs (i + 1)) + ix (xs (i + 2))) (zL ((xs (i + 3)).toInt64 <<< ((nI 32).toInt64 &&& 63) ||| ((xs (i + 4)).toInt64 &&& 4294967295)) * zinv (zL ((xs (i + 5)).toInt64 <<< ((nI 32).toInt64 &&& 63) ||| ((xs (i + 6)).toInt64 &&& 4294967295))))), si, sr, pu, va, ro, pm, bm, ma, ti, ta, im, sh, un, pv, rfl, rfl, congrArg nI ec.symm, fun z => hw, ⟨_, _, _, _, _, _, _, _, _, _, _, _, _, _, _, _, _, _, _, _, _, _, _, _, _, _, _, _, _, _, _, _, _, _, _, _, _, hI2, rfl, hS.factor (by have := (ltR_ix (cdF_0 ec).1).1; omega) (ltR_ix (cdF_0 ec).2).1 _⟩⟩
  obtain ⟨r, s2, fa2, si2, sr2, pu2, va2, ro2, pm2, bm2, ma2, ti2, ta2, im2, sh2, un2, pv2, rfl, rfl, e0, hv, hR2⟩ := key
  refine gr_istore dL_law_257 (by decide) rfl ?_
  refine gr_aload_n dL_law_259 rfl ?_
  refine gr_callV dL_law_260 (c_thrown l E 10 _ A hD.2.1 s2 fa2 si2 sr2 pu2 va2 ro2 pm2 bm2 ma2 ti2 ta2 im2 sh2 un2 pv2) ysX9_thrown ⟨ml_L_82, im_X9_thrown, sl_X9_thrown⟩ (md_0 hD.2.1) (show vwCl[9]? = some (RX9, TX9, _) from rfl) rfl rfl (Nat.le_of_ble_eq_true rfl) ⟨by decide, by decide⟩ ⟨by show _ + 0 ≤ 603072; omega, by show _ + 0 ≤ 7165560; omega⟩ (fun r9 h9 hp8 => ?_)
  obtain ⟨rfl, rfl⟩ := hp8
  refine gr_h (hp_m hD).symm ?_
  refine gr_iload dL_law_263 rfl ?_
  refine gr_icmpeq 270 dL_law_265 (by decide) (fun _ => ?_) (fun z => absurd e0 z)
  refine gr_iload dL_law_270 rfl ?_
  refine gr_ifneN 294 dL_law_272 (by decide) (by omega) (fun ck => ?_) (fun ck => ?_)
  · exact gr_goto 1196 dL_law_294 (by decide) (gr_wide (by omega) (by omega) (kk _ _ _ _ _ hR2))
  · refine gr_aload_n dL_law_275 rfl ?_
    refine gr_iconst (v := nI 0) dL_law_276 rfl ?_
    refine gr_laload dL_law_277 hp_q (by decide) (by decide) ?_
    refine gr_iload dL_law_278 rfl ?_
    refine gr_ifeq 287 dL_law_280 (by decide) (fun cz => ?_) (fun cz => ?_)
    · refine gr_lconst (v := lN 0) dL_law_287 rfl ?_
      refine gr_lcmp dL_law_288 (gr_top (congrArg Value.int (lcmp_same (by have e := hv ck; unfold zJ at e; rwa [if_pos cz] at e))) ?_)
      refine gr_ifeqN 294 dL_law_289 (by decide) (by omega) (fun _ => ?_) (fun z => absurd rfl z)
      exact gr_goto 1196 dL_law_294 (by decide) (gr_wide (by omega) (by omega) (kk _ _ _ _ _ hR2))
    · refine gr_lconst (v := lN 1) dL_law_283 rfl (gr_goto 288 dL_law_284 (by decide) ?_)
      refine gr_lcmp dL_law_288 (gr_top (congrArg Value.int (lcmp_same (by have e := hv ck; unfold zJ at e; rwa [if_neg cz] at e))) ?_)
      refine gr_ifeqN 294 dL_law_289 (by decide) (by omega) (fun _ => ?_) (fun z => absurd rfl z)
      exact gr_goto 1196 dL_law_294 (by decide) (gr_wide (by omega) (by omega) (kk _ _ _ _ _ hR2))

set_option maxHeartbeats 4000000 in
set_option maxRecDepth 100000 in
theorem op_right (l : Launch) (hl0 : l.stackTraces = false) (E : ga_E) (b L : Nat) (xs : Nat → Int32) (hbE : b < ga_N0 E) (hL : L ≤ 3585) (Z A : Nat → Nat) (q : Nat) (hD : Dj Z A q) (ZZ : List Frame → Array Value → State → State → Prop) (c md : Nat → va_E) (w : Nat → Int64) (hR : RLa E Z A c md) (i : Nat) (hi : i + 7 ≤ L) (x5 x6 : Option Value) (cells slots : Nat) (hcs : cells + 3 ≤ 603072 ∧ slots + 18 ≤ 7165560) (kk : ∀ (c' md' : Nat → va_E) (w' : Nat → Int64) (x5 x6 : Option Value), RLa E Z A c' md' → ga_G l E mL_law room_1 (Zs b L xs ZZ) 1196 [some (.ref b), some (.ref (Z 0)), some (.ref (A 0)), some (.ref q), some (.int (nI i)), x5, x6] [] (HP Z c' A md' q (ga_j E 1 w')) (cells + 3) (slots + 18)) : ga_G l E mL_law room_1 (Zs b L xs ZZ) 297 [some (.ref b), some (.ref (Z 0)), some (.ref (A 0)), some (.ref q), some (.int (nI i)), x5, x6] [] (HP Z c A md q (ga_j E 1 w)) cells slots := by
  obtain ⟨o, F, S, tr, zk, kn, mt, bc, n0, rv, pa, ba, bs, bv, sn, kv, y, zn, zf, cn, cf, s, fa, si, sr, pu, va, ro, pm, bm, ma, ti, ta, im, sh, un, pv, hI, rfl, hS⟩ := hR
  have ho := hS.2.1
  have ho4 := hS.1.1
  have hs5 := hS.2.2.2.2.1
  have hV := hS.2.2.2.2.2.1
  have hs8 := hS.2.2.2.2.2.2.1
  have hzk := hS.2.2.2.2.2.2.2.1
  have hnb := hS.2.2.2.2.2.2.2.2.1
  obtain ⟨nm, mm, pw, hs9, hs11, hs13, hK⟩ := hS.opened
  refine gr_aload_n dL_law_297 rfl ?_
  refine gr_aload_n dL_law_298 rfl ?_
  refine gr_iload dL_law_299 rfl ?_
  refine gr_iconst (v := nI 1) dL_law_301 rfl ?_
  refine gr_iaddN dL_law_302 ?_
  refine gr_sld dL_law_303 hbE (by omega) hL ?_
  refine gr_aload_n dL_law_304 rfl ?_
  refine gr_iload dL_law_305 rfl ?_
  refine gr_iconst (v := nI 2) dL_law_307 rfl ?_
  refine gr_iaddN dL_law_308 ?_
  refine gr_sld dL_law_309 hbE (by omega) hL ?_
  refine gr_i2l dL_law_310 rfl ?_
  refine gr_bipush (v := nI 32) dL_law_311 (by decide) ?_
  refine gr_lshl dL_law_313 ?_
  refine gr_aload_n dL_law_314 rfl ?_
  refine gr_iload dL_law_315 rfl ?_
  refine gr_iconst (v := nI 3) dL_law_317 rfl ?_
  refine gr_iaddN dL_law_318 ?_
  refine gr_sld dL_law_319 hbE (by omega) hL ?_
  refine gr_i2l dL_law_320 rfl ?_
  refine gr_ldc2 dL_law_321 kl_L_76 ?_
  refine gr_land dL_law_324 ?_
  refine gr_lor dL_law_325 ?_
  refine gr_aload_n dL_law_326 rfl ?_
  refine gr_iload dL_law_327 rfl ?_
  refine gr_iconst (v := nI 4) dL_law_329 rfl ?_
  refine gr_iaddN dL_law_330 ?_
  refine gr_sld dL_law_331 hbE (by omega) hL ?_
  refine gr_i2l dL_law_332 rfl ?_
  refine gr_bipush (v := nI 32) dL_law_333 (by decide) ?_
  refine gr_lshl dL_law_335 ?_
  refine gr_aload_n dL_law_336 rfl ?_
  refine gr_iload dL_law_337 rfl ?_
  refine gr_iconst (v := nI 5) dL_law_339 rfl ?_
  refine gr_iaddN dL_law_340 ?_
  refine gr_sld dL_law_341 hbE (by omega) hL ?_
  refine gr_i2l dL_law_342 rfl ?_
  refine gr_ldc2 dL_law_343 kl_L_76 ?_
  refine gr_land dL_law_346 ?_
  refine gr_lor dL_law_347 ?_
  refine gr_aload_n dL_law_348 rfl ?_
  refine gr_h (hp_c hD) ?_
  refine gr_callSW (n := 5) dL_law_349 (h_right l E 10 _ (Z 0) q w _ _ _ _ 1 6 _ _ (fun r0 h' => ∃ (k : Nat) (c' : Nat → va_E) (w' : Nat → Int64), k < 4 ∧ r0 = some (.int (nI k)) ∧ h' = HP Z c' A (mdC E A s fa si sr pu va ro pm bm ma ti ta im sh pv un) q (ga_j E 1 w') ∧ (k = cdR (xs (i + 1)) (zL ((xs (i + 4)).toInt64 <<< ((nI 32).toInt64 &&& 63) ||| ((xs (i + 5)).toInt64 &&& 4294967295))) ∧ (k ≠ 0 → c' = c) ∧ (k = 0 → S (ix (xs (i + 1))) = (zL ((xs (i + 2)).toInt64 <<< ((nI 32).toInt64 &&& 63) ||| ((xs (i + 3)).toInt64 &&& 4294967295)) * zinv (zL ((xs (i + 4)).toInt64 <<< ((nI 32).toInt64 &&& 63) ||| ((xs (i + 5)).toInt64 &&& 4294967295)))) ∧ c' = c ∧ w' 0 = zJ (nI 0) ∨ S (ix (xs (i + 1))) ≠ (zL ((xs (i + 2)).toInt64 <<< ((nI 32).toInt64 &&& 63) ||| ((xs (i + 3)).toInt64 &&& 4294967295)) * zinv (zL ((xs (i + 4)).toInt64 <<< ((nI 32).toInt64 &&& 63) ||| ((xs (i + 5)).toInt64 &&& 4294967295)))) ∧ coI E Z c' o F (va_up S (ix (xs (i + 1))) (zL ((xs (i + 2)).toInt64 <<< ((nI 32).toInt64 &&& 63) ||| ((xs (i + 3)).toInt64 &&& 4294967295)) * zinv (zL ((xs (i + 4)).toInt64 <<< ((nI 32).toInt64 &&& 63) ||| ((xs (i + 5)).toInt64 &&& 4294967295))))) tr false false mt bc n0 rv pa ba bs bv sn sn y zn zf cn cf ∧ w' 0 = zJ (nI 1)))) (co_ra hD.1 hI) (c_right l hl0 E 2 _ Z hD.1 o F S tr zk kn mt bc n0 rv pa ba bs bv sn kv y zn zf cn cf c hI _ _ _) (fun r h' hp => by
    obtain ⟨e, ⟨e1, rfl, rfl⟩ | ⟨e1, c2, hI2, rfl, rfl⟩⟩ := hp
    · exact ⟨_, rfl, hp_cq hD, 0, c, _, by omega, rfl, hp_cw hD, e.symm, fun z => absurd rfl z, fun _ => Or.inl ⟨e1, rfl, rfl⟩⟩
    · exact ⟨_, rfl, hp_cq hD, 0, c2, _, by omega, rfl, hp_cw hD, e.symm, fun z => absurd rfl z, fun _ => Or.inr ⟨e1, hI2, rfl⟩⟩) (fun Y h' hp => hp.2.elim (fun e => Or.inl ⟨e.1, 1, c, w, by omega, rfl, hp.1.trans (hp_c hD).symm, e.2.symm, fun _ => rfl, fun z => absurd z (by omega)⟩) (fun e => Or.inr ⟨e.1, 2, c, w, by omega, rfl, hp.1.trans (hp_c hD).symm, e.2.symm, fun _ => rfl, fun z => absurd z (by omega)⟩))) cx_L_right wi_L (by decide +kernel) (by decide) ⟨ml_L_85, sm_L_right⟩ rfl rfl (Nat.le_of_ble_eq_true rfl) ⟨by decide, by decide⟩ ⟨by show _ + 1 ≤ 603072; omega, by show _ + 6 ≤ 7165560; omega⟩ (fun r0 h1 hp => ?_)
  obtain ⟨k, c', w', hk4, rfl, rfl, hQ⟩ := hp
  refine gr_istore dL_law_352 (by decide) rfl ?_
  refine gr_aload_n dL_law_354 rfl ?_
  refine gr_aload_n dL_law_355 rfl ?_
  refine gr_iload dL_law_356 rfl ?_
  refine gr_iconst (v := nI 1) dL_law_358 rfl ?_
  refine gr_iaddN dL_law_359 ?_
  refine gr_sld dL_law_360 hbE (by omega) hL ?_
  refine gr_aload_n dL_law_361 rfl ?_
  refine gr_iload dL_law_362 rfl ?_
  refine gr_iconst (v := nI 2) dL_law_364 rfl ?_
  refine gr_iaddN dL_law_365 ?_
  refine gr_sld dL_law_366 hbE (by omega) hL ?_
  refine gr_i2l dL_law_367 rfl ?_
  refine gr_bipush (v := nI 32) dL_law_368 (by decide) ?_
  refine gr_lshl dL_law_370 ?_
  refine gr_aload_n dL_law_371 rfl ?_
  refine gr_iload dL_law_372 rfl ?_
  refine gr_iconst (v := nI 3) dL_law_374 rfl ?_
  refine gr_iaddN dL_law_375 ?_
  refine gr_sld dL_law_376 hbE (by omega) hL ?_
  refine gr_i2l dL_law_377 rfl ?_
  refine gr_ldc2 dL_law_378 kl_L_76 ?_
  refine gr_land dL_law_381 ?_
  refine gr_lor dL_law_382 ?_
  refine gr_aload_n dL_law_383 rfl ?_
  refine gr_iload dL_law_384 rfl ?_
  refine gr_iconst (v := nI 4) dL_law_386 rfl ?_
  refine gr_iaddN dL_law_387 ?_
  refine gr_sld dL_law_388 hbE (by omega) hL ?_
  refine gr_i2l dL_law_389 rfl ?_
  refine gr_bipush (v := nI 32) dL_law_390 (by decide) ?_
  refine gr_lshl dL_law_392 ?_
  refine gr_aload_n dL_law_393 rfl ?_
  refine gr_iload dL_law_394 rfl ?_
  refine gr_iconst (v := nI 5) dL_law_396 rfl ?_
  refine gr_iaddN dL_law_397 ?_
  refine gr_sld dL_law_398 hbE (by omega) hL ?_
  refine gr_i2l dL_law_399 rfl ?_
  refine gr_ldc2 dL_law_400 kl_L_76 ?_
  refine gr_land dL_law_403 ?_
  refine gr_lor dL_law_404 ?_
  refine gr_h (hp_m hD) ?_
  refine gr_callV dL_law_405 (c_mright l E 9 _ A hD.2.1 s fa si sr pu va ro pm bm ma ti ta im sh un pv _ _ _) ysX9_right ⟨ml_L_88, im_X9_right, sl_X9_right⟩ (md_0 hD.2.1) (show vwCl[9]? = some (RX9, TX9, _) from rfl) rfl rfl (Nat.le_of_ble_eq_true rfl) ⟨by decide, by decide⟩ ⟨by show _ + 0 ≤ 603072; omega, by show _ + 0 ≤ 7165560; omega⟩ (fun r0 h1 hp9 => ?_)
  have key : AM E Z A c' q w' k zJ r0 h1 := by
    obtain ⟨rfl, hc0, hc1⟩ := hQ
    rcases hp9 with ⟨ec, rfl, r, rfl⟩ | ⟨ec, rfl, rfl⟩
    · obtain rfl := hc0 ec
      exact ⟨r, (va_up s 0 (nI (cdR (xs (i + 1)) (zL ((xs (i + 4)).toInt64 <<< ((nI 32).toInt64 &&& 63) ||| ((xs (i + 5)).toInt64 &&& 4294967295)))))), fa, si, sr, pu, va, ro, pm, bm, ma, ti, ta, im, sh, un, pv, rfl, rfl, rfl, fun z => absurd z ec, ⟨_, _, _, _, _, _, _, _, _, _, _, _, _, _, _, _, _, _, _, _, _, _, _, _, _, _, _, _, _, _, _, _, _, _, _, _, _, hI, rfl, hS.t0 _⟩⟩
    · have el : S (ix (xs (i + 1))) = si (ix (xs (i + 1))) := hS.2.2.1 _ (ltR_ix (cdR_0 ec)).1
      rcases hc1 ec with ⟨e1, rfl, hw⟩ | ⟨e1, hI2, hw⟩
      · have ez : zne (si (ix (xs (i + 1)))) (zL ((xs (i + 2)).toInt64 <<< ((nI 32).toInt64 &&& 63) ||| ((xs (i + 3)).toInt64 &&& 4294967295)) * zinv (zL ((xs (i + 4)).toInt64 <<< ((nI 32).toInt64 &&& 63) ||| ((xs (i + 5)).toInt64 &&& 4294967295)))) = false := zne_f (congrArg Fin.val (el.symm.trans e1))
        rw [ez, va_same (el.symm.trans e1)]
        exact ⟨_, (va_up s 0 (nI (0))), fa, si, sr, pu, va, ro, pm, bm, ma, ti, ta, im, sh, un, pv, rfl, rfl, congrArg nI ec.symm, fun z => hw, ⟨_, _, _, _, _, _, _, _, _, _, _, _, _, _, _, _, _, _, _, _, _, _, _, _, _, _, _, _, _, _, _, _, _, _, _, _, _, hI, rfl, hS.t0 _⟩⟩
      · have ez : zne (si (ix (xs (i + 1)))) (zL ((xs (i + 2)).toInt64 <<< ((nI 32).toInt64 &&& 63) ||| ((xs (i + 3)).toInt64 &&& 4294967295)) * zinv (zL ((xs (i + 4)).toInt64 <<< ((nI 32).toInt64 &&& 63) ||| ((xs (i + 5)).toInt64 &&& 4294967295)))) = true := zne_t (fun z => e1 (el.trans (Fin.ext z)))
        rw [ez, if_pos rfl]
        exact ⟨_, (va_up (va_up s 0 (nI 0)) 8 (nI 0)), fa, (va_up si (ix (xs (i + 1))) (zL ((xs (i + 2)).toInt64 <<< ((nI 32).toInt64 &&& 63) ||| ((xs (i + 3)).toInt64 &&& 4294967295)) * zinv (zL ((xs (i + 4)).toInt64 <<< ((nI 32).toInt64 &&& 63) ||| ((xs (i + 5)).toInt64 &&& 4294967295))))), sr, pu, va, ro, pm, bm, ma, ti, ta, im, sh, un, pv, rfl, rfl, congrArg nI ec.symm, fun z => hw, ⟨_, _, _, _, _, _, _, _, _, _, _, _, _, _, _, _, _, _, _, _, _, _, _, _, _, _, _, _, _, _, _, _, _, _, _, _, _, hI2, rfl, hS.right _ _⟩⟩
  obtain ⟨r, s2, fa2, si2, sr2, pu2, va2, ro2, pm2, bm2, ma2, ti2, ta2, im2, sh2, un2, pv2, rfl, rfl, e0, hv, hR2⟩ := key
  refine gr_istore dL_law_408 (by decide) rfl ?_
  refine gr_aload_n dL_law_410 rfl ?_
  refine gr_callV dL_law_411 (c_thrown l E 10 _ A hD.2.1 s2 fa2 si2 sr2 pu2 va2 ro2 pm2 bm2 ma2 ti2 ta2 im2 sh2 un2 pv2) ysX9_thrown ⟨ml_L_82, im_X9_thrown, sl_X9_thrown⟩ (md_0 hD.2.1) (show vwCl[9]? = some (RX9, TX9, _) from rfl) rfl rfl (Nat.le_of_ble_eq_true rfl) ⟨by decide, by decide⟩ ⟨by show _ + 0 ≤ 603072; omega, by show _ + 0 ≤ 7165560; omega⟩ (fun r9 h9 hp8 => ?_)
  obtain ⟨rfl, rfl⟩ := hp8
  refine gr_h (hp_m hD).symm ?_
  refine gr_iload dL_law_414 rfl ?_
  refine gr_icmpeq 421 dL_law_416 (by decide) (fun _ => ?_) (fun z => absurd e0 z)
  refine gr_iload dL_law_421 rfl ?_
  refine gr_ifneN 445 dL_law_423 (by decide) (by omega) (fun ck => ?_) (fun ck => ?_)
  · exact gr_goto 1196 dL_law_445 (by decide) (gr_wide (by omega) (by omega) (kk _ _ _ _ _ hR2))
  · refine gr_aload_n dL_law_426 rfl ?_
    refine gr_iconst (v := nI 0) dL_law_427 rfl ?_
    refine gr_laload dL_law_428 hp_q (by decide) (by decide) ?_
    refine gr_iload dL_law_429 rfl ?_
    refine gr_ifeq 438 dL_law_431 (by decide) (fun cz => ?_) (fun cz => ?_)
    · refine gr_lconst (v := lN 0) dL_law_438 rfl ?_
      refine gr_lcmp dL_law_439 (gr_top (congrArg Value.int (lcmp_same (by have e := hv ck; unfold zJ at e; rwa [if_pos cz] at e))) ?_)
      refine gr_ifeqN 445 dL_law_440 (by decide) (by omega) (fun _ => ?_) (fun z => absurd rfl z)
      exact gr_goto 1196 dL_law_445 (by decide) (gr_wide (by omega) (by omega) (kk _ _ _ _ _ hR2))
    · refine gr_lconst (v := lN 1) dL_law_434 rfl (gr_goto 439 dL_law_435 (by decide) ?_)
      refine gr_lcmp dL_law_439 (gr_top (congrArg Value.int (lcmp_same (by have e := hv ck; unfold zJ at e; rwa [if_neg cz] at e))) ?_)
      refine gr_ifeqN 445 dL_law_440 (by decide) (by omega) (fun _ => ?_) (fun z => absurd rfl z)
      exact gr_goto 1196 dL_law_445 (by decide) (gr_wide (by omega) (by omega) (kk _ _ _ _ _ hR2))

set_option maxHeartbeats 4000000 in
set_option maxRecDepth 100000 in
theorem op_start (l : Launch) (hl0 : l.stackTraces = false) (E : ga_E) (b L : Nat) (xs : Nat → Int32) (hbE : b < ga_N0 E) (hL : L ≤ 3585) (Z A : Nat → Nat) (q : Nat) (hD : Dj Z A q) (ZZ : List Frame → Array Value → State → State → Prop) (c md : Nat → va_E) (w : Nat → Int64) (hR : RLa E Z A c md) (i : Nat) (hi : i + 7 ≤ L) (x5 x6 : Option Value) (cells slots : Nat) (hcs : cells + 3 ≤ 603072 ∧ slots + 18 ≤ 7165560) (kk : ∀ (c' md' : Nat → va_E) (w' : Nat → Int64) (x5 x6 : Option Value), RLa E Z A c' md' → ga_G l E mL_law room_1 (Zs b L xs ZZ) 1196 [some (.ref b), some (.ref (Z 0)), some (.ref (A 0)), some (.ref q), some (.int (nI i)), x5, x6] [] (HP Z c' A md' q (ga_j E 1 w')) (cells + 3) (slots + 18)) : ga_G l E mL_law room_1 (Zs b L xs ZZ) 860 [some (.ref b), some (.ref (Z 0)), some (.ref (A 0)), some (.ref q), some (.int (nI i)), x5, x6] [] (HP Z c A md q (ga_j E 1 w)) cells slots := by
  obtain ⟨o, F, S, tr, zk, kn, mt, bc, n0, rv, pa, ba, bs, bv, sn, kv, y, zn, zf, cn, cf, s, fa, si, sr, pu, va, ro, pm, bm, ma, ti, ta, im, sh, un, pv, hI, rfl, hS⟩ := hR
  have ho := hS.2.1
  have ho4 := hS.1.1
  have hs5 := hS.2.2.2.2.1
  have hV := hS.2.2.2.2.2.1
  have hs8 := hS.2.2.2.2.2.2.1
  have hzk := hS.2.2.2.2.2.2.2.1
  have hnb := hS.2.2.2.2.2.2.2.2.1
  obtain ⟨nm, mm, pw, hs9, hs11, hs13, hK⟩ := hS.opened
  refine gr_aload_n dL_law_860 rfl ?_
  refine gr_aload_n dL_law_861 rfl ?_
  refine gr_iload dL_law_862 rfl ?_
  refine gr_iconst (v := nI 1) dL_law_864 rfl ?_
  refine gr_iaddN dL_law_865 ?_
  refine gr_sld dL_law_866 hbE (by omega) hL ?_
  refine gr_i2l dL_law_867 rfl ?_
  refine gr_bipush (v := nI 32) dL_law_868 (by decide) ?_
  refine gr_lshl dL_law_870 ?_
  refine gr_aload_n dL_law_871 rfl ?_
  refine gr_iload dL_law_872 rfl ?_
  refine gr_iconst (v := nI 2) dL_law_874 rfl ?_
  refine gr_iaddN dL_law_875 ?_
  refine gr_sld dL_law_876 hbE (by omega) hL ?_
  refine gr_i2l dL_law_877 rfl ?_
  refine gr_ldc2 dL_law_878 kl_L_76 ?_
  refine gr_land dL_law_881 ?_
  refine gr_lor dL_law_882 ?_
  refine gr_h (hp_c hD) ?_
  refine gr_callV dL_law_883 (c_start l E 8 _ Z hD.1 o F S tr zk kn mt bc n0 rv pa ba bs bv sn kv y zn zf cn cf c hI hV.1 _) ysX8_start ⟨ml_L_118, im_X8_start, sl_X8_start⟩ (co_ra hD.1 hI) (show vwCl[8]? = some (RX8, TX8, _) from rfl) rfl rfl (Nat.le_of_ble_eq_true rfl) ⟨by decide, by decide⟩ ⟨by show _ + 0 ≤ 603072; omega, by show _ + 0 ≤ 7165560; omega⟩ (fun r0 h1 hp9 => ?_)
  obtain ⟨e9, rfl, rfl⟩ | ⟨e9, c2, hI2, rfl, rfl⟩ := hp9
  · refine gr_h (hp_c hD).symm ?_
    refine gr_aload_n dL_law_886 rfl ?_
    refine gr_aload_n dL_law_887 rfl ?_
    refine gr_iload dL_law_888 rfl ?_
    refine gr_iconst (v := nI 1) dL_law_890 rfl ?_
    refine gr_iaddN dL_law_891 ?_
    refine gr_sld dL_law_892 hbE (by omega) hL ?_
    refine gr_i2l dL_law_893 rfl ?_
    refine gr_bipush (v := nI 32) dL_law_894 (by decide) ?_
    refine gr_lshl dL_law_896 ?_
    refine gr_aload_n dL_law_897 rfl ?_
    refine gr_iload dL_law_898 rfl ?_
    refine gr_iconst (v := nI 2) dL_law_900 rfl ?_
    refine gr_iaddN dL_law_901 ?_
    refine gr_sld dL_law_902 hbE (by omega) hL ?_
    refine gr_i2l dL_law_903 rfl ?_
    refine gr_ldc2 dL_law_904 kl_L_76 ?_
    refine gr_land dL_law_907 ?_
    refine gr_lor dL_law_908 ?_
    refine gr_h (hp_m hD) ?_
    refine gr_callV dL_law_909 (c_mstart l E 9 _ A hD.2.1 s fa si sr pu va ro pm bm ma ti ta im sh un pv sn hs5 hV.1 _) ysX9_start ⟨ml_L_122, im_X9_start, sl_X9_start⟩ (md_0 hD.2.1) (show vwCl[9]? = some (RX9, TX9, _) from rfl) rfl rfl (Nat.le_of_ble_eq_true rfl) ⟨by decide, by decide⟩ ⟨by show _ + 0 ≤ 603072; omega, by show _ + 0 ≤ 7165560; omega⟩ (fun r8 h8 hp8 => ?_)
    obtain ⟨e8, rfl, rfl⟩ | ⟨e8, -⟩ := hp8
    · refine gr_icmpeq 1196 dL_law_912 (by decide) (fun _ => ?_) (fun z => absurd (rfl) z)
      refine gr_h (hp_m hD).symm ?_
      exact gr_wide (by omega) (by omega) (kk _ _ _ _ _ ⟨_, _, _, _, _, _, _, _, _, _, _, _, _, _, _, _, _, _, _, _, _, _, _, _, _, _, _, _, _, _, _, _, _, _, _, _, _, hI, rfl, hS.t0 _⟩)
    · exact absurd e9 (by omega)
  · refine gr_h (hp_c hD).symm ?_
    refine gr_aload_n dL_law_886 rfl ?_
    refine gr_aload_n dL_law_887 rfl ?_
    refine gr_iload dL_law_888 rfl ?_
    refine gr_iconst (v := nI 1) dL_law_890 rfl ?_
    refine gr_iaddN dL_law_891 ?_
    refine gr_sld dL_law_892 hbE (by omega) hL ?_
    refine gr_i2l dL_law_893 rfl ?_
    refine gr_bipush (v := nI 32) dL_law_894 (by decide) ?_
    refine gr_lshl dL_law_896 ?_
    refine gr_aload_n dL_law_897 rfl ?_
    refine gr_iload dL_law_898 rfl ?_
    refine gr_iconst (v := nI 2) dL_law_900 rfl ?_
    refine gr_iaddN dL_law_901 ?_
    refine gr_sld dL_law_902 hbE (by omega) hL ?_
    refine gr_i2l dL_law_903 rfl ?_
    refine gr_ldc2 dL_law_904 kl_L_76 ?_
    refine gr_land dL_law_907 ?_
    refine gr_lor dL_law_908 ?_
    refine gr_h (hp_m hD) ?_
    refine gr_callV dL_law_909 (c_mstart l E 9 _ A hD.2.1 s fa si sr pu va ro pm bm ma ti ta im sh un pv sn hs5 hV.1 _) ysX9_start ⟨ml_L_122, im_X9_start, sl_X9_start⟩ (md_0 hD.2.1) (show vwCl[9]? = some (RX9, TX9, _) from rfl) rfl rfl (Nat.le_of_ble_eq_true rfl) ⟨by decide, by decide⟩ ⟨by show _ + 0 ≤ 603072; omega, by show _ + 0 ≤ 7165560; omega⟩ (fun r8 h8 hp8 => ?_)
    obtain ⟨e8, -⟩ | ⟨e8, rfl, rfl⟩ := hp8
    · exact absurd e9 (by omega)
    · refine gr_icmpeq 1196 dL_law_912 (by decide) (fun _ => ?_) (fun z => absurd (rfl) z)
      refine gr_h (hp_m hD).symm ?_
      exact gr_wide (by omega) (by omega) (kk _ _ _ _ _ ⟨_, _, _, _, _, _, _, _, _, _, _, _, _, _, _, _, _, _, _, _, _, _, _, _, _, _, _, _, _, _, _, _, _, _, _, _, _, hI2, rfl, hS.start e9 _⟩)

set_option maxHeartbeats 4000000 in
set_option maxRecDepth 100000 in
theorem op_singular (l : Launch) (hl0 : l.stackTraces = false) (E : ga_E) (b L : Nat) (xs : Nat → Int32) (hbE : b < ga_N0 E) (hL : L ≤ 3585) (Z A : Nat → Nat) (q : Nat) (hD : Dj Z A q) (ZZ : List Frame → Array Value → State → State → Prop) (c md : Nat → va_E) (w : Nat → Int64) (hR : RLa E Z A c md) (i : Nat) (hi : i + 7 ≤ L) (x5 x6 : Option Value) (cells slots : Nat) (hcs : cells + 3 ≤ 603072 ∧ slots + 18 ≤ 7165560) (kk : ∀ (c' md' : Nat → va_E) (w' : Nat → Int64) (x5 x6 : Option Value), RLa E Z A c' md' → ga_G l E mL_law room_1 (Zs b L xs ZZ) 1196 [some (.ref b), some (.ref (Z 0)), some (.ref (A 0)), some (.ref q), some (.int (nI i)), x5, x6] [] (HP Z c' A md' q (ga_j E 1 w')) (cells + 3) (slots + 18)) : ga_G l E mL_law room_1 (Zs b L xs ZZ) 973 [some (.ref b), some (.ref (Z 0)), some (.ref (A 0)), some (.ref q), some (.int (nI i)), x5, x6] [] (HP Z c A md q (ga_j E 1 w)) cells slots := by
  obtain ⟨o, F, S, tr, zk, kn, mt, bc, n0, rv, pa, ba, bs, bv, sn, kv, y, zn, zf, cn, cf, s, fa, si, sr, pu, va, ro, pm, bm, ma, ti, ta, im, sh, un, pv, hI, rfl, hS⟩ := hR
  have ho := hS.2.1
  have ho4 := hS.1.1
  have hs5 := hS.2.2.2.2.1
  have hV := hS.2.2.2.2.2.1
  have hs8 := hS.2.2.2.2.2.2.1
  have hzk := hS.2.2.2.2.2.2.2.1
  have hnb := hS.2.2.2.2.2.2.2.2.1
  obtain ⟨nm, mm, pw, hs9, hs11, hs13, hK⟩ := hS.opened
  refine gr_aload_n dL_law_973 rfl ?_
  refine gr_aload_n dL_law_974 rfl ?_
  refine gr_iload dL_law_975 rfl ?_
  refine gr_iconst (v := nI 1) dL_law_977 rfl ?_
  refine gr_iaddN dL_law_978 ?_
  refine gr_sld dL_law_979 hbE (by omega) hL ?_
  refine gr_h (hp_c hD) ?_
  refine gr_callV dL_law_980 (c_singular l E 4 _ Z hD.1 o F S tr zk kn mt bc n0 rv pa ba bs bv sn kv y zn zf cn cf c hI hzk _) ysX8_singular ⟨ml_L_126, im_X8_singular, sl_X8_singular⟩ (co_ra hD.1 hI) (show vwCl[8]? = some (RX8, TX8, _) from rfl) rfl rfl (Nat.le_of_ble_eq_true rfl) ⟨by decide, by decide⟩ ⟨by show _ + 0 ≤ 603072; omega, by show _ + 0 ≤ 7165560; omega⟩ (fun r0 h1 hp9 => ?_)
  obtain ⟨gq, hgq, ⟨rfl, rfl, rfl⟩ | ⟨g, rfl, c2, zn2, zf2, hI2, z1, z2, z3, rfl, rfl⟩⟩ := hp9
  · refine gr_h (hp_c hD).symm ?_
    refine gr_aload_n dL_law_983 rfl ?_
    refine gr_aload_n dL_law_984 rfl ?_
    refine gr_iload dL_law_985 rfl ?_
    refine gr_iconst (v := nI 1) dL_law_987 rfl ?_
    refine gr_iaddN dL_law_988 ?_
    refine gr_sld dL_law_989 hbE (by omega) hL ?_
    refine gr_h (hp_m hD) ?_
    refine gr_callV dL_law_990 (c_msingular l E 9 _ A hD.2.1 s fa si sr pu va ro pm bm ma ti ta im sh un pv o ho ho4 0 (fun _ => 0) (by omega) (fun i j _ hj => absurd hj (by omega)) (fun g hg => by cases hS.gu hgq hg) _) ysX9_singular ⟨ml_L_129, im_X9_singular, sl_X9_singular⟩ (md_0 hD.2.1) (show vwCl[9]? = some (RX9, TX9, _) from rfl) rfl rfl (Nat.le_of_ble_eq_true rfl) ⟨by decide, by decide⟩ ⟨by show _ + 0 ≤ 603072; omega, by show _ + 0 ≤ 7165560; omega⟩ (fun r8 h8 hp8 => ?_)
    obtain ⟨rfl, qm, hqm, ⟨-, rfl⟩ | ⟨g, rfl, -⟩⟩ := hp8
    · refine gr_icmpeq 1196 dL_law_993 (by decide) (fun _ => ?_) (fun z => absurd (rfl) z)
      refine gr_h (hp_m hD).symm ?_
      exact gr_wide (by omega) (by omega) (kk _ _ _ _ _ ⟨_, _, _, _, _, _, _, _, _, _, _, _, _, _, _, _, _, _, _, _, _, _, _, _, _, _, _, _, _, _, _, _, _, _, _, _, _, hI, rfl, hS.t0 _⟩)
    · cases hS.gu hgq hqm
  · obtain ⟨hS2, hh2⟩ := hS.sing hgq z1 z2 z3
    refine gr_h (hp_c hD).symm ?_
    refine gr_aload_n dL_law_983 rfl ?_
    refine gr_aload_n dL_law_984 rfl ?_
    refine gr_iload dL_law_985 rfl ?_
    refine gr_iconst (v := nI 1) dL_law_987 rfl ?_
    refine gr_iaddN dL_law_988 ?_
    refine gr_sld dL_law_989 hbE (by omega) hL ?_
    refine gr_h (hp_m hD) ?_
    refine gr_callV dL_law_990 (c_msingular l E 9 _ A hD.2.1 s fa si sr pu va ro pm bm ma ti ta im sh un pv o ho ho4 zn2 zf2 z1 z2 hh2 _) ysX9_singular ⟨ml_L_129, im_X9_singular, sl_X9_singular⟩ (md_0 hD.2.1) (show vwCl[9]? = some (RX9, TX9, _) from rfl) rfl rfl (Nat.le_of_ble_eq_true rfl) ⟨by decide, by decide⟩ ⟨by show _ + 0 ≤ 603072; omega, by show _ + 0 ≤ 7165560; omega⟩ (fun r8 h8 hp8 => ?_)
    obtain ⟨rfl, qm, hqm, ⟨rfl, -⟩ | ⟨g2, rfl, rfl⟩⟩ := hp8
    · cases hS.gu hgq hqm
    · refine gr_icmpeq 1196 dL_law_993 (by decide) (fun _ => ?_) (fun z => absurd (rfl) z)
      refine gr_h (hp_m hD).symm ?_
      exact gr_wide (by omega) (by omega) (kk _ _ _ _ _ ⟨_, _, _, _, _, _, _, _, _, _, _, _, _, _, _, _, _, _, _, _, _, _, _, _, _, _, _, _, _, _, _, _, _, _, _, _, _, hI2, rfl, hS2⟩)

set_option maxHeartbeats 4000000 in
set_option maxRecDepth 100000 in
theorem op_run (l : Launch) (hl0 : l.stackTraces = false) (E : ga_E) (b L : Nat) (xs : Nat → Int32) (hbE : b < ga_N0 E) (hL : L ≤ 3585) (Z A : Nat → Nat) (q : Nat) (hD : Dj Z A q) (ZZ : List Frame → Array Value → State → State → Prop) (c md : Nat → va_E) (w : Nat → Int64) (hR : RLa E Z A c md) (i : Nat) (hi : i + 7 ≤ L) (x5 x6 : Option Value) (cells slots : Nat) (hcs : cells + 3 ≤ 603072 ∧ slots + 18 ≤ 7165560) (kk : ∀ (c' md' : Nat → va_E) (w' : Nat → Int64) (x5 x6 : Option Value), RLa E Z A c' md' → ga_G l E mL_law room_1 (Zs b L xs ZZ) 1196 [some (.ref b), some (.ref (Z 0)), some (.ref (A 0)), some (.ref q), some (.int (nI i)), x5, x6] [] (HP Z c' A md' q (ga_j E 1 w')) (cells + 3) (slots + 18)) : ga_G l E mL_law room_1 (Zs b L xs ZZ) 448 [some (.ref b), some (.ref (Z 0)), some (.ref (A 0)), some (.ref q), some (.int (nI i)), x5, x6] [] (HP Z c A md q (ga_j E 1 w)) cells slots := by
  obtain ⟨o, F, S, tr, zk, kn, mt, bc, n0, rv, pa, ba, bs, bv, sn, kv, y, zn, zf, cn, cf, s, fa, si, sr, pu, va, ro, pm, bm, ma, ti, ta, im, sh, un, pv, hI, rfl, hS⟩ := hR
  have ho := hS.2.1
  have ho4 := hS.1.1
  have hs5 := hS.2.2.2.2.1
  have hV := hS.2.2.2.2.2.1
  have hs8 := hS.2.2.2.2.2.2.1
  have hzk := hS.2.2.2.2.2.2.2.1
  have hnb := hS.2.2.2.2.2.2.2.2.1
  obtain ⟨nm, mm, pw, hs9, hs11, hs13, hK⟩ := hS.opened
  refine gr_aload_n dL_law_448 rfl ?_
  refine gr_h (hp_c hD) ?_
  refine gr_callV dL_law_449 (c_run l E 2 _ Z hD.1 o F S tr zk kn mt bc n0 rv pa ba bs bv sn kv y zn zf cn cf c hI) ysX8_run ⟨ml_L_89, im_X8_run, sl_X8_run⟩ (co_ra hD.1 hI) (show vwCl[8]? = some (RX8, TX8, _) from rfl) rfl rfl (Nat.le_of_ble_eq_true rfl) ⟨by decide, by decide⟩ ⟨by show _ + 0 ≤ 603072; omega, by show _ + 0 ≤ 7165560; omega⟩ (fun r0 h1 hp9 => ?_)
  obtain ⟨nr, rt, hr1, hr2, hr3⟩ := hS.roots
  rcases hp9 with ⟨hg, rfl, rfl⟩ | ⟨⟨g, hg⟩, rfl, ⟨hk, rfl⟩ | ⟨hk, c2, mt2, bc2, nn2, rv2, pa2, ba2, bs2, bv2, cn2, cf2, hI2, b1, b2, hP, hM, hB, rfl⟩⟩
  · refine gr_h (hp_c hD).symm ?_
    refine gr_aload_n dL_law_452 rfl ?_
    refine gr_h (hp_m hD) ?_
    refine gr_callV dL_law_453 (c_mrun l E 7 _ A hD.2.1 s fa si sr pu va ro pm bm ma ti ta im sh un pv o ho ho4 nr rt hr1 hr2 hr3) ysX9_run ⟨ml_L_92, im_X9_run, sl_X9_run⟩ (md_0 hD.2.1) (show vwCl[9]? = some (RX9, TX9, _) from rfl) rfl rfl (Nat.le_of_ble_eq_true rfl) ⟨by decide, by decide⟩ ⟨by show _ + 0 ≤ 603072; omega, by show _ + 0 ≤ 7165560; omega⟩ (fun r8 h8 hp8 => ?_)
    obtain ⟨hg0, rfl, rfl⟩ | ⟨⟨g0, hg0⟩, rfl, s2, ro2, pm2, bm2, ma2, ti2, ta2, im2, sh2, pv2, un2, n2, pw2, t2, mm2, rfl, ⟨-, e1, e5, e9, e11⟩, e8, e13, hpw2, -, ht2, hP2, hM2, hB2⟩ := hp8
    · refine gr_icmpeq 1196 dL_law_456 (by decide) (fun _ => ?_) (fun z => absurd (rfl) z)
      refine gr_h (hp_m hD).symm ?_
      exact gr_wide (by omega) (by omega) (kk _ _ _ _ _ ⟨_, _, _, _, _, _, _, _, _, _, _, _, _, _, _, _, _, _, _, _, _, _, _, _, _, _, _, _, _, _, _, _, _, _, _, _, _, hI, rfl, hS.run0 hg⟩)
    · cases hS.gu hg hg0
  · subst hk
    have hKC := hS.2.2.2.2.2.2.2.2.2.1 rfl
    refine gr_h (hp_c hD).symm ?_
    refine gr_aload_n dL_law_452 rfl ?_
    refine gr_h (hp_m hD) ?_
    refine gr_callV dL_law_453 (c_mrun l E 7 _ A hD.2.1 s fa si sr pu va ro pm bm ma ti ta im sh un pv o ho ho4 nr rt hr1 hr2 hr3) ysX9_run ⟨ml_L_92, im_X9_run, sl_X9_run⟩ (md_0 hD.2.1) (show vwCl[9]? = some (RX9, TX9, _) from rfl) rfl rfl (Nat.le_of_ble_eq_true rfl) ⟨by decide, by decide⟩ ⟨by show _ + 0 ≤ 603072; omega, by show _ + 0 ≤ 7165560; omega⟩ (fun r8 h8 hp8 => ?_)
    obtain ⟨hg0, rfl, rfl⟩ | ⟨⟨g0, hg0⟩, rfl, s2, ro2, pm2, bm2, ma2, ti2, ta2, im2, sh2, pv2, un2, n2, pw2, t2, mm2, rfl, ⟨-, e1, e5, e9, e11⟩, e8, e13, hpw2, -, ht2, hP2, hM2, hB2⟩ := hp8
    · cases hS.gu hg hg0
    · refine gr_icmpeq 1196 dL_law_456 (by decide) (fun _ => ?_) (fun z => absurd (rfl) z)
      refine gr_h (hp_m hD).symm ?_
      exact gr_wide (by omega) (by omega) (kk _ _ _ _ _ ⟨_, _, _, _, _, _, _, _, _, _, _, _, _, _, _, _, _, _, _, _, _, _, _, _, _, _, _, _, _, _, _, _, _, _, _, _, _, hI, rfl, hS.run1 hKC hnb.2.1 e1 e5 e8 e9 e11 e13 hpw2 ht2 hP2 hM2 hB2⟩)
  · refine gr_h (hp_c hD).symm ?_
    refine gr_aload_n dL_law_452 rfl ?_
    refine gr_h (hp_m hD) ?_
    refine gr_callV dL_law_453 (c_mrun l E 7 _ A hD.2.1 s fa si sr pu va ro pm bm ma ti ta im sh un pv o ho ho4 nr rt hr1 hr2 hr3) ysX9_run ⟨ml_L_92, im_X9_run, sl_X9_run⟩ (md_0 hD.2.1) (show vwCl[9]? = some (RX9, TX9, _) from rfl) rfl rfl (Nat.le_of_ble_eq_true rfl) ⟨by decide, by decide⟩ ⟨by show _ + 0 ≤ 603072; omega, by show _ + 0 ≤ 7165560; omega⟩ (fun r8 h8 hp8 => ?_)
    obtain ⟨hg0, rfl, rfl⟩ | ⟨⟨g0, hg0⟩, rfl, s2, ro2, pm2, bm2, ma2, ti2, ta2, im2, sh2, pv2, un2, n2, pw2, t2, mm2, rfl, ⟨-, e1, e5, e9, e11⟩, e8, e13, hpw2, -, ht2, hP2, hM2, hB2⟩ := hp8
    · cases hS.gu hg hg0
    · refine gr_icmpeq 1196 dL_law_456 (by decide) (fun _ => ?_) (fun z => absurd (rfl) z)
      refine gr_h (hp_m hD).symm ?_
      exact gr_wide (by omega) (by omega) (kk _ _ _ _ _ ⟨_, _, _, _, _, _, _, _, _, _, _, _, _, _, _, _, _, _, _, _, _, _, _, _, _, _, _, _, _, _, _, _, _, _, _, _, _, hI2, rfl, hS.run1 ⟨⟨g, hg⟩, hP, hM, hB⟩ b1 e1 e5 e8 e9 e11 e13 hpw2 ht2 hP2 hM2 hB2⟩)

set_option maxHeartbeats 4000000 in
set_option maxRecDepth 100000 in
theorem op_clear (l : Launch) (hl0 : l.stackTraces = false) (E : ga_E) (b L : Nat) (xs : Nat → Int32) (hbE : b < ga_N0 E) (hL : L ≤ 3585) (Z A : Nat → Nat) (q : Nat) (hD : Dj Z A q) (ZZ : List Frame → Array Value → State → State → Prop) (c md : Nat → va_E) (w : Nat → Int64) (hR : RLa E Z A c md) (i : Nat) (hi : i + 7 ≤ L) (x5 x6 : Option Value) (cells slots : Nat) (hcs : cells + 3 ≤ 603072 ∧ slots + 18 ≤ 7165560) (kk : ∀ (c' md' : Nat → va_E) (w' : Nat → Int64) (x5 x6 : Option Value), RLa E Z A c' md' → ga_G l E mL_law room_1 (Zs b L xs ZZ) 1196 [some (.ref b), some (.ref (Z 0)), some (.ref (A 0)), some (.ref q), some (.int (nI i)), x5, x6] [] (HP Z c' A md' q (ga_j E 1 w')) (cells + 3) (slots + 18)) : ga_G l E mL_law room_1 (Zs b L xs ZZ) 1185 [some (.ref b), some (.ref (Z 0)), some (.ref (A 0)), some (.ref q), some (.int (nI i)), x5, x6] [] (HP Z c A md q (ga_j E 1 w)) cells slots := by
  obtain ⟨o, F, S, tr, zk, kn, mt, bc, n0, rv, pa, ba, bs, bv, sn, kv, y, zn, zf, cn, cf, s, fa, si, sr, pu, va, ro, pm, bm, ma, ti, ta, im, sh, un, pv, hI, rfl, hS⟩ := hR
  have ho := hS.2.1
  have ho4 := hS.1.1
  have hs5 := hS.2.2.2.2.1
  have hV := hS.2.2.2.2.2.1
  have hs8 := hS.2.2.2.2.2.2.1
  have hzk := hS.2.2.2.2.2.2.2.1
  have hnb := hS.2.2.2.2.2.2.2.2.1
  obtain ⟨nm, mm, pw, hs9, hs11, hs13, hK⟩ := hS.opened
  refine gr_aload_n dL_law_1185 rfl ?_
  refine gr_h (hp_c hD) ?_
  refine gr_callV dL_law_1186 (c_clear l E 8 _ Z hD.1 o F S tr zk kn mt bc n0 rv pa ba bs bv sn kv y zn zf cn cf c hI) ysX8_clear ⟨ml_L_139, im_X8_clear, sl_X8_clear⟩ (co_ra hD.1 hI) (show vwCl[8]? = some (RX8, TX8, _) from rfl) rfl rfl (Nat.le_of_ble_eq_true rfl) ⟨by decide, by decide⟩ ⟨by show _ + 0 ≤ 603072; omega, by show _ + 0 ≤ 7165560; omega⟩ (fun r0 h1 hp9 => ?_)
  obtain ⟨c2, F2, S2, tr2, hI2, f1, f2, f3, rfl, rfl⟩ := hp9
  refine gr_h (hp_c hD).symm ?_
  refine gr_aload_n dL_law_1189 rfl ?_
  refine gr_h (hp_m hD) ?_
  refine gr_callV dL_law_1190 (c_mclear l E 10 _ A hD.2.1 s fa si sr pu va ro pm bm ma ti ta im sh un pv) ysX9_clear ⟨ml_L_142, im_X9_clear, sl_X9_clear⟩ (md_0 hD.2.1) (show vwCl[9]? = some (RX9, TX9, _) from rfl) rfl rfl (Nat.le_of_ble_eq_true rfl) ⟨by decide, by decide⟩ ⟨by show _ + 0 ≤ 603072; omega, by show _ + 0 ≤ 7165560; omega⟩ (fun r8 h8 hp8 => ?_)
  obtain ⟨fa2, si2, pu2, g1, g2, g3, rfl, rfl⟩ := hp8
  refine gr_h (hp_m hD).symm ?_
  exact gr_goto 1196 dL_law_1193 (by decide) (gr_wide (by omega) (by omega) (kk _ _ _ _ _ ⟨_, _, _, _, _, _, _, _, _, _, _, _, _, _, _, _, _, _, _, _, _, _, _, _, _, _, _, _, _, _, _, _, _, _, _, _, _, hI2, rfl, hS.clear f1 f2 f3 g1 g2 g3⟩))
