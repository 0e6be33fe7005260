/-! The reference: what its calls answer -/
def ix (x : Int32) : Nat := x.toNatClampNeg
def ltR (x : Int32) (b : Nat) : Bool := !(decide (x < 0)) && decide (ix x < b)
theorem ix_nI {j : Nat} (h : j < 2 ^ 31) : ix (nI j) = j := nI_clamp h
theorem ltR_neg {x : Int32} (h : x < 0) (b : Nat) : ltR x b = false := by unfold ltR; simp [h]
theorem ltR_lt {j b : Nat} (h : j < 2 ^ 31) (hb : j < b) : ltR (nI j) b = true := by
  unfold ltR; rw [ix_nI h]; simp [nI_pos h, hb]
theorem ltR_ge {j b : Nat} (h : j < 2 ^ 31) (hb : b ≤ j) : ltR (nI j) b = false := by
  unfold ltR; rw [ix_nI h]; simp; omega
theorem ltR_of {x : Int32} {b : Nat} (h : ltR x b = true) (hb : b ≤ 2 ^ 31) : ∃ j, j < b ∧ j < 2 ^ 31 ∧ x = nI j := by
  unfold ltR at h
  simp at h
  obtain ⟨j, hj, rfl⟩ := nI_of (Int32.not_lt.mpr h.1)
  rw [ix_nI hj] at h
  exact ⟨j, h.2, hj, rfl⟩
theorem zL_0 (x : Int64) : x - x / (32003 : Int64) * (32003 : Int64) = 0 ↔ zL x = 0 := by
  have e := l64_remI x
  have hz := zL_val x
  constructor
  · intro h
    rw [h] at e
    have e : (0 : Int) = x.toInt.tmod 32003 := e
    rw [l64_emod, ← e] at hz
    refine Fin.ext ?_
    have : ((zL x).val : Int) = 0 := by simpa using hz
    show (zL x).val = 0
    omega
  · intro h
    refine Int64.toInt_inj.mp ?_
    rw [e]
    show x.toInt.tmod 32003 = 0
    rw [h] at hz
    have hz : (0 : Int) = x.toInt % 32003 := hz
    exact Int.tmod_eq_zero_of_dvd (Int.dvd_of_emod_eq_zero hz.symm)
def cdP (b : Nat) (p : Int32) : Nat := if ltR p b = true then 0 else 1
def cdF (o : Nat) (sh p : Int32) (zb : zp) : Nat := if ltR sh (o + 1) = true then (if ltR p 7 = true then (if zb = 0 then 3 else 0) else 2) else 1
def cdR (p : Int32) (zb : zp) : Nat := if ltR p 11 = true then (if zb = 0 then 2 else 0) else 1
def cdK (kn : Bool) : Nat := if kn = true then 0 else 1
def cdA (kn : Bool) (n : Nat) (mt : Bool) (k p : Int32) : Nat := if kn = true then (if ltR p 13 = true ∧ (k = -1 ∧ mt = true ∨ ltR k n = true) then 0 else 2) else 1
def cdT (kn : Bool) (pw : Nat) (ma : Nat → zp) (k i p : Int32) : Nat := if kn = true then (if ltR k pw = true ∧ ltR i (ma (ix k)).val = true ∧ ltR p 13 = true then 0 else 2) else 1
theorem bI_not (kn : Bool) : bI (!kn) = nI (cdK kn) := by cases kn <;> rfl

set_option maxHeartbeats 4000000 in
set_option maxRecDepth 100000 in
theorem c_mpolynomials (l : Launch) (E : ga_E) (d : Nat) (h : ga_H) (A : Nat → Nat) (hA : ga_inj A 16) (s : Nat → Int32) (fa si sr pu va ro pa ba ma ti ta im sh un : Nat → zp) (pv : Nat → Option Nat) (kn : Bool) (hk : s 8 = bI kn) : ga_Ok l E (d + 1) mX9_polynomials [.ref (A 0)] (mdH E h A s fa si sr pu va ro pa ba ma ti ta im sh pv un) 0 0 (fun r0 h' => h' = mdH E h A (va_up s 0 (nI (cdK kn))) fa si sr pu va ro pa ba ma ti ta im sh pv un ∧ ∃ r, r0 = some (.int r) ∧ (cdK kn = 0 → r = s 9)) := by
  refine ga_Ok.of 0 _ (by decide) rfl (Nat.le_of_ble_eq_true rfl) rfl ?_
  cases kn
  · refine gr_aload_n dX9_polynomials_0 rfl ?_
    refine gr_callV dX9_polynomials_1 (c_unknown l E d h A hA s fa si sr pu va ro pa ba ma ti ta im sh un pv false hk) ysX9_unknown ⟨ml_X9_117, im_X9_unknown, sl_X9_unknown⟩ (md_0 hA) (show vwCl[9]? = some (RX9, TX9, _) from rfl) rfl rfl (Nat.le_of_ble_eq_true rfl) ⟨(Nat.le_refl _), (Nat.le_refl _)⟩ ⟨(Nat.le_refl _), (Nat.le_refl _)⟩ (fun r0 h1 hp9 => ?_)
    obtain ⟨e1, rfl⟩ := hp9
    subst h1
    refine gr_ifeq 11 dX9_polynomials_4 (by decide) (fun z => absurd z (by decide)) (fun _ => ?_)
    refine gr_iconst (v := nI 0) dX9_polynomials_7 rfl ?_
    refine gr_goto 15 dX9_polynomials_8 (by decide) ?_
    exact gr_ireturn dX9_polynomials_15 rfl (Nat.le_refl _) (Nat.le_refl _) ⟨rfl, _, rfl, fun z => absurd z (by decide)⟩
  · refine gr_aload_n dX9_polynomials_0 rfl ?_
    refine gr_callV dX9_polynomials_1 (c_unknown l E d h A hA s fa si sr pu va ro pa ba ma ti ta im sh un pv true hk) ysX9_unknown ⟨ml_X9_117, im_X9_unknown, sl_X9_unknown⟩ (md_0 hA) (show vwCl[9]? = some (RX9, TX9, _) from rfl) rfl rfl (Nat.le_of_ble_eq_true rfl) ⟨(Nat.le_refl _), (Nat.le_refl _)⟩ ⟨(Nat.le_refl _), (Nat.le_refl _)⟩ (fun r0 h1 hp9 => ?_)
    obtain ⟨e1, rfl⟩ := hp9
    subst h1
    refine gr_ifeq 11 dX9_polynomials_4 (by decide) (fun _ => ?_) (fun z => absurd rfl z)
    refine gr_aload_n dX9_polynomials_11 rfl ?_
    refine gr_getf dX9_polynomials_12 cls_X9 9 (by decide) fl_X9_36 (md_0 hA) rfl ?_
    exact gr_ireturn dX9_polynomials_15 rfl (Nat.le_refl _) (Nat.le_refl _) ⟨rfl, _, rfl, fun _ => rfl⟩

set_option maxHeartbeats 4000000 in
set_option maxRecDepth 100000 in
theorem c_mpowers (l : Launch) (E : ga_E) (d : Nat) (h : ga_H) (A : Nat → Nat) (hA : ga_inj A 16) (s : Nat → Int32) (fa si sr pu va ro pa ba ma ti ta im sh un : Nat → zp) (pv : Nat → Option Nat) (kn : Bool) (hk : s 8 = bI kn) : ga_Ok l E (d + 1) mX9_powers [.ref (A 0)] (mdH E h A s fa si sr pu va ro pa ba ma ti ta im sh pv un) 0 0 (fun r0 h' => h' = mdH E h A (va_up s 0 (nI (cdK kn))) fa si sr pu va ro pa ba ma ti ta im sh pv un ∧ ∃ r, r0 = some (.int r) ∧ (cdK kn = 0 → r = s 13)) := by
  refine ga_Ok.of 0 _ (by decide) rfl (Nat.le_of_ble_eq_true rfl) rfl ?_
  cases kn
  · refine gr_aload_n dX9_powers_0 rfl ?_
    refine gr_callV dX9_powers_1 (c_unknown l E d h A hA s fa si sr pu va ro pa ba ma ti ta im sh un pv false hk) ysX9_unknown ⟨ml_X9_117, im_X9_unknown, sl_X9_unknown⟩ (md_0 hA) (show vwCl[9]? = some (RX9, TX9, _) from rfl) rfl rfl (Nat.le_of_ble_eq_true rfl) ⟨(Nat.le_refl _), (Nat.le_refl _)⟩ ⟨(Nat.le_refl _), (Nat.le_refl _)⟩ (fun r0 h1 hp9 => ?_)
    obtain ⟨e1, rfl⟩ := hp9
    subst h1
    refine gr_ifeq 11 dX9_powers_4 (by decide) (fun z => absurd z (by decide)) (fun _ => ?_)
    refine gr_iconst (v := nI 0) dX9_powers_7 rfl ?_
    refine gr_goto 15 dX9_powers_8 (by decide) ?_
    exact gr_ireturn dX9_powers_15 rfl (Nat.le_refl _) (Nat.le_refl _) ⟨rfl, _, rfl, fun z => absurd z (by decide)⟩
  · refine gr_aload_n dX9_powers_0 rfl ?_
    refine gr_callV dX9_powers_1 (c_unknown l E d h A hA s fa si sr pu va ro pa ba ma ti ta im sh un pv true hk) ysX9_unknown ⟨ml_X9_117, im_X9_unknown, sl_X9_unknown⟩ (md_0 hA) (show vwCl[9]? = some (RX9, TX9, _) from rfl) rfl rfl (Nat.le_of_ble_eq_true rfl) ⟨(Nat.le_refl _), (Nat.le_refl _)⟩ ⟨(Nat.le_refl _), (Nat.le_refl _)⟩ (fun r0 h1 hp9 => ?_)
    obtain ⟨e1, rfl⟩ := hp9
    subst h1
    refine gr_ifeq 11 dX9_powers_4 (by decide) (fun _ => ?_) (fun z => absurd rfl z)
    refine gr_aload_n dX9_powers_11 rfl ?_
    refine gr_getf dX9_powers_12 cls_X9 13 (by decide) fl_X9_48 (md_0 hA) rfl ?_
    exact gr_ireturn dX9_powers_15 rfl (Nat.le_refl _) (Nat.le_refl _) ⟨rfl, _, rfl, fun _ => rfl⟩

set_option maxHeartbeats 4000000 in
set_option maxRecDepth 100000 in
theorem c_mmeets (l : Launch) (E : ga_E) (d : Nat) (h : ga_H) (A : Nat → Nat) (hA : ga_inj A 16) (s : Nat → Int32) (fa si sr pu va ro pa ba ma ti ta im sh un : Nat → zp) (pv : Nat → Option Nat) (kn : Bool) (hk : s 8 = bI kn) (mt : Bool) (hm : s 11 = bI mt) : ga_Ok l E (d + 1) mX9_meets [.ref (A 0)] (mdH E h A s fa si sr pu va ro pa ba ma ti ta im sh pv un) 0 0 (fun r0 h' => h' = mdH E h A (va_up s 0 (nI (cdK kn))) fa si sr pu va ro pa ba ma ti ta im sh pv un ∧ ∃ r, r0 = some (.int r) ∧ (cdK kn = 0 → r = bI mt)) := by
  refine ga_Ok.of 0 _ (by decide) rfl (Nat.le_of_ble_eq_true rfl) rfl ?_
  cases kn
  · refine gr_aload_n dX9_meets_0 rfl ?_
    refine gr_callV dX9_meets_1 (c_unknown l E d h A hA s fa si sr pu va ro pa ba ma ti ta im sh un pv false hk) ysX9_unknown ⟨ml_X9_117, im_X9_unknown, sl_X9_unknown⟩ (md_0 hA) (show vwCl[9]? = some (RX9, TX9, _) from rfl) rfl rfl (Nat.le_of_ble_eq_true rfl) ⟨(Nat.le_refl _), (Nat.le_refl _)⟩ ⟨(Nat.le_refl _), (Nat.le_refl _)⟩ (fun r0 h1 hp9 => ?_)
    obtain ⟨e1, rfl⟩ := hp9
    subst h1
    refine gr_ifne 18 dX9_meets_4 (by decide) (fun _ => ?_) (fun z => absurd z (by decide))
    refine gr_iconst (v := nI 0) dX9_meets_18 rfl ?_
    exact gr_zreturn dX9_meets_19 rfl rfl (Nat.le_refl _) (Nat.le_refl _) ⟨rfl, _, rfl, fun z => absurd z (by decide)⟩
  · cases mt
    · refine gr_aload_n dX9_meets_0 rfl ?_
      refine gr_callV dX9_meets_1 (c_unknown l E d h A hA s fa si sr pu va ro pa ba ma ti ta im sh un pv true hk) ysX9_unknown ⟨ml_X9_117, im_X9_unknown, sl_X9_unknown⟩ (md_0 hA) (show vwCl[9]? = some (RX9, TX9, _) from rfl) rfl rfl (Nat.le_of_ble_eq_true rfl) ⟨(Nat.le_refl _), (Nat.le_refl _)⟩ ⟨(Nat.le_refl _), (Nat.le_refl _)⟩ (fun r0 h1 hp9 => ?_)
      obtain ⟨e1, rfl⟩ := hp9
      subst h1
      refine gr_ifne 18 dX9_meets_4 (by decide) (fun z => absurd rfl z) (fun _ => ?_)
      refine gr_aload_n dX9_meets_7 rfl ?_
      refine gr_getf dX9_meets_8 cls_X9 11 (by decide) fl_X9_42 (md_0 hA) rfl (gr_top (congrArg Value.int (show va_up s 0 (nI 0) 11 = nI 0 from hm)) ?_)
      refine gr_ifeq 18 dX9_meets_11 (by decide) (fun _ => ?_) (fun z => absurd rfl z)
      refine gr_iconst (v := nI 0) dX9_meets_18 rfl ?_
      exact gr_zreturn dX9_meets_19 rfl rfl (Nat.le_refl _) (Nat.le_refl _) ⟨rfl, _, rfl, fun _ => rfl⟩
    · refine gr_aload_n dX9_meets_0 rfl ?_
      refine gr_callV dX9_meets_1 (c_unknown l E d h A hA s fa si sr pu va ro pa ba ma ti ta im sh un pv true hk) ysX9_unknown ⟨ml_X9_117, im_X9_unknown, sl_X9_unknown⟩ (md_0 hA) (show vwCl[9]? = some (RX9, TX9, _) from rfl) rfl rfl (Nat.le_of_ble_eq_true rfl) ⟨(Nat.le_refl _), (Nat.le_refl _)⟩ ⟨(Nat.le_refl _), (Nat.le_refl _)⟩ (fun r0 h1 hp9 => ?_)
      obtain ⟨e1, rfl⟩ := hp9
      subst h1
      refine gr_ifne 18 dX9_meets_4 (by decide) (fun z => absurd rfl z) (fun _ => ?_)
      refine gr_aload_n dX9_meets_7 rfl ?_
      refine gr_getf dX9_meets_8 cls_X9 11 (by decide) fl_X9_42 (md_0 hA) rfl (gr_top (congrArg Value.int (show va_up s 0 (nI 0) 11 = nI 1 from hm)) ?_)
      refine gr_ifeq 18 dX9_meets_11 (by decide) (fun z => absurd z (by decide)) (fun _ => ?_)
      refine gr_iconst (v := nI 1) dX9_meets_14 rfl ?_
      refine gr_goto 19 dX9_meets_15 (by decide) ?_
      exact gr_zreturn dX9_meets_19 rfl rfl (Nat.le_refl _) (Nat.le_refl _) ⟨rfl, _, rfl, fun _ => rfl⟩

set_option maxHeartbeats 4000000 in
set_option maxRecDepth 100000 in
theorem c_mbase (l : Launch) (E : ga_E) (d : Nat) (h : ga_H) (A : Nat → Nat) (hA : ga_inj A 16) (s : Nat → Int32) (fa si sr pu va ro pa ba ma ti ta im sh un : Nat → zp) (pv : Nat → Option Nat) (kn : Bool) (hk : s 8 = bI kn) (pw : Nat) (hp : s 13 = nI pw) (hp8 : pw ≤ 8) (k : Int32) : ga_Ok l E (d + 1) mX9_base [.ref (A 0), .int k] (mdH E h A s fa si sr pu va ro pa ba ma ti ta im sh pv un) 0 0 (fun r0 h' => h' = mdH E h A (va_up s 0 (nI (cdK kn))) fa si sr pu va ro pa ba ma ti ta im sh pv un ∧ ∃ r, r0 = some (.int r) ∧ (cdK kn = 0 → r = if ltR k pw = true then nI (ba (ix k)).val else -1)) := by
  refine ga_Ok.of 0 _ (by decide) rfl (Nat.le_of_ble_eq_true rfl) rfl ?_
  cases kn
  · refine gr_aload_n dX9_base_0 rfl ?_
    refine gr_callV dX9_base_1 (c_unknown l E d h A hA s fa si sr pu va ro pa ba ma ti ta im sh un pv false hk) ysX9_unknown ⟨ml_X9_117, im_X9_unknown, sl_X9_unknown⟩ (md_0 hA) (show vwCl[9]? = some (RX9, TX9, _) from rfl) rfl rfl (Nat.le_of_ble_eq_true rfl) ⟨(Nat.le_refl _), (Nat.le_refl _)⟩ ⟨(Nat.le_refl _), (Nat.le_refl _)⟩ (fun r0 h1 hp9 => ?_)
    obtain ⟨e1, rfl⟩ := hp9
    subst h1
    refine gr_ifeq 11 dX9_base_4 (by decide) (fun z => absurd z (by decide)) (fun _ => ?_)
    refine gr_iconst (v := nI 0) dX9_base_7 rfl ?_
    refine gr_goto 33 dX9_base_8 (by decide) ?_
    exact gr_ireturn dX9_base_33 rfl (Nat.le_refl _) (Nat.le_refl _) ⟨rfl, _, rfl, fun z => absurd z (by decide)⟩
  · refine gr_aload_n dX9_base_0 rfl ?_
    refine gr_callV dX9_base_1 (c_unknown l E d h A hA s fa si sr pu va ro pa ba ma ti ta im sh un pv true hk) ysX9_unknown ⟨ml_X9_117, im_X9_unknown, sl_X9_unknown⟩ (md_0 hA) (show vwCl[9]? = some (RX9, TX9, _) from rfl) rfl rfl (Nat.le_of_ble_eq_true rfl) ⟨(Nat.le_refl _), (Nat.le_refl _)⟩ ⟨(Nat.le_refl _), (Nat.le_refl _)⟩ (fun r0 h1 hp9 => ?_)
    obtain ⟨e1, rfl⟩ := hp9
    subst h1
    refine gr_ifeq 11 dX9_base_4 (by decide) (fun _ => ?_) (fun z => absurd rfl z)
    refine gr_iload_n dX9_base_11 rfl ?_
    refine gr_iflt 23 dX9_base_12 (by decide) (fun c_12 => ?_) (fun c_12 => ?_)
    · refine gr_iconst (v := -1) dX9_base_23 (by decide) ?_
      refine gr_goto 33 dX9_base_24 (by decide) ?_
      first
        | exact gr_ireturn dX9_base_33 rfl (Nat.le_refl _) (Nat.le_refl _) ⟨rfl, _, rfl, fun _ => by rw [ltR_lt hj c_20, ix_nI hj]; rfl⟩
        | exact gr_ireturn dX9_base_33 rfl (Nat.le_refl _) (Nat.le_refl _) ⟨rfl, _, rfl, fun _ => by rw [ltR_ge hj c_20]; rfl⟩
        | exact gr_ireturn dX9_base_33 rfl (Nat.le_refl _) (Nat.le_refl _) ⟨rfl, _, rfl, fun _ => by rw [ltR_neg c_12]; rfl⟩
    · obtain ⟨j, hj, rfl⟩ := nI_of c_12
      refine gr_iload_n dX9_base_15 rfl ?_
      refine gr_aload_n dX9_base_16 rfl ?_
      refine gr_getf dX9_base_17 cls_X9 13 (by decide) fl_X9_48 (md_0 hA) rfl (gr_top (congrArg Value.int (show va_up s 0 (nI 0) 13 = nI pw from hp)) ?_)
      refine gr_icmpltN 27 dX9_base_20 (by decide) (by omega) (by omega) (fun c_20 => ?_) (fun c_20 => ?_)
      · refine gr_aload_n dX9_base_27 rfl ?_
        refine gr_getf dX9_base_28 cls_X9 14 (by decide) fl_X9_51 (md_0 hA) rfl ?_
        refine gr_iload_n dX9_base_31 rfl ?_
        refine gr_ialoadF dX9_base_32 (md_8 hA) (by omega) (by decide) ?_
        first
          | exact gr_ireturn dX9_base_33 rfl (Nat.le_refl _) (Nat.le_refl _) ⟨rfl, _, rfl, fun _ => by rw [ltR_lt hj c_20, ix_nI hj]; rfl⟩
          | exact gr_ireturn dX9_base_33 rfl (Nat.le_refl _) (Nat.le_refl _) ⟨rfl, _, rfl, fun _ => by rw [ltR_ge hj c_20]; rfl⟩
          | exact gr_ireturn dX9_base_33 rfl (Nat.le_refl _) (Nat.le_refl _) ⟨rfl, _, rfl, fun _ => by rw [ltR_neg c_12]; rfl⟩
      · refine gr_iconst (v := -1) dX9_base_23 (by decide) ?_
        refine gr_goto 33 dX9_base_24 (by decide) ?_
        first
          | exact gr_ireturn dX9_base_33 rfl (Nat.le_refl _) (Nat.le_refl _) ⟨rfl, _, rfl, fun _ => by rw [ltR_lt hj c_20, ix_nI hj]; rfl⟩
          | exact gr_ireturn dX9_base_33 rfl (Nat.le_refl _) (Nat.le_refl _) ⟨rfl, _, rfl, fun _ => by rw [ltR_ge hj c_20]; rfl⟩
          | exact gr_ireturn dX9_base_33 rfl (Nat.le_refl _) (Nat.le_refl _) ⟨rfl, _, rfl, fun _ => by rw [ltR_neg c_12]; rfl⟩

set_option maxHeartbeats 4000000 in
set_option maxRecDepth 100000 in
theorem c_mmany (l : Launch) (E : ga_E) (d : Nat) (h : ga_H) (A : Nat → Nat) (hA : ga_inj A 16) (s : Nat → Int32) (fa si sr pu va ro pa ba ma ti ta im sh un : Nat → zp) (pv : Nat → Option Nat) (kn : Bool) (hk : s 8 = bI kn) (pw : Nat) (hp : s 13 = nI pw) (hp8 : pw ≤ 8) (k : Int32) : ga_Ok l E (d + 1) mX9_many [.ref (A 0), .int k] (mdH E h A s fa si sr pu va ro pa ba ma ti ta im sh pv un) 0 0 (fun r0 h' => h' = mdH E h A (va_up s 0 (nI (cdK kn))) fa si sr pu va ro pa ba ma ti ta im sh pv un ∧ ∃ r, r0 = some (.int r) ∧ (cdK kn = 0 → r = if ltR k pw = true then nI (ma (ix k)).val else -1)) := by
  refine ga_Ok.of 0 _ (by decide) rfl (Nat.le_of_ble_eq_true rfl) rfl ?_
  cases kn
  · refine gr_aload_n dX9_many_0 rfl ?_
    refine gr_callV dX9_many_1 (c_unknown l E d h A hA s fa si sr pu va ro pa ba ma ti ta im sh un pv false hk) ysX9_unknown ⟨ml_X9_117, im_X9_unknown, sl_X9_unknown⟩ (md_0 hA) (show vwCl[9]? = some (RX9, TX9, _) from rfl) rfl rfl (Nat.le_of_ble_eq_true rfl) ⟨(Nat.le_refl _), (Nat.le_refl _)⟩ ⟨(Nat.le_refl _), (Nat.le_refl _)⟩ (fun r0 h1 hp9 => ?_)
    obtain ⟨e1, rfl⟩ := hp9
    subst h1
    refine gr_ifeq 11 dX9_many_4 (by decide) (fun z => absurd z (by decide)) (fun _ => ?_)
    refine gr_iconst (v := nI 0) dX9_many_7 rfl ?_
    refine gr_goto 33 dX9_many_8 (by decide) ?_
    exact gr_ireturn dX9_many_33 rfl (Nat.le_refl _) (Nat.le_refl _) ⟨rfl, _, rfl, fun z => absurd z (by decide)⟩
  · refine gr_aload_n dX9_many_0 rfl ?_
    refine gr_callV dX9_many_1 (c_unknown l E d h A hA s fa si sr pu va ro pa ba ma ti ta im sh un pv true hk) ysX9_unknown ⟨ml_X9_117, im_X9_unknown, sl_X9_unknown⟩ (md_0 hA) (show vwCl[9]? = some (RX9, TX9, _) from rfl) rfl rfl (Nat.le_of_ble_eq_true rfl) ⟨(Nat.le_refl _), (Nat.le_refl _)⟩ ⟨(Nat.le_refl _), (Nat.le_refl _)⟩ (fun r0 h1 hp9 => ?_)
    obtain ⟨e1, rfl⟩ := hp9
    subst h1
    refine gr_ifeq 11 dX9_many_4 (by decide) (fun _ => ?_) (fun z => absurd rfl z)
    refine gr_iload_n dX9_many_11 rfl ?_
    refine gr_iflt 23 dX9_many_12 (by decide) (fun c_12 => ?_) (fun c_12 => ?_)
    · refine gr_iconst (v := -1) dX9_many_23 (by decide) ?_
      refine gr_goto 33 dX9_many_24 (by decide) ?_
      first
        | exact gr_ireturn dX9_many_33 rfl (Nat.le_refl _) (Nat.le_refl _) ⟨rfl, _, rfl, fun _ => by rw [ltR_lt hj c_20, ix_nI hj]; rfl⟩
        | exact gr_ireturn dX9_many_33 rfl (Nat.le_refl _) (Nat.le_refl _) ⟨rfl, _, rfl, fun _ => by rw [ltR_ge hj c_20]; rfl⟩
        | exact gr_ireturn dX9_many_33 rfl (Nat.le_refl _) (Nat.le_refl _) ⟨rfl, _, rfl, fun _ => by rw [ltR_neg c_12]; rfl⟩
    · obtain ⟨j, hj, rfl⟩ := nI_of c_12
      refine gr_iload_n dX9_many_15 rfl ?_
      refine gr_aload_n dX9_many_16 rfl ?_
      refine gr_getf dX9_many_17 cls_X9 13 (by decide) fl_X9_48 (md_0 hA) rfl (gr_top (congrArg Value.int (show va_up s 0 (nI 0) 13 = nI pw from hp)) ?_)
      refine gr_icmpltN 27 dX9_many_20 (by decide) (by omega) (by omega) (fun c_20 => ?_) (fun c_20 => ?_)
      · refine gr_aload_n dX9_many_27 rfl ?_
        refine gr_getf dX9_many_28 cls_X9 15 (by decide) fl_X9_54 (md_0 hA) rfl ?_
        refine gr_iload_n dX9_many_31 rfl ?_
        refine gr_ialoadF dX9_many_32 (md_9 hA) (by omega) (by decide) ?_
        first
          | exact gr_ireturn dX9_many_33 rfl (Nat.le_refl _) (Nat.le_refl _) ⟨rfl, _, rfl, fun _ => by rw [ltR_lt hj c_20, ix_nI hj]; rfl⟩
          | exact gr_ireturn dX9_many_33 rfl (Nat.le_refl _) (Nat.le_refl _) ⟨rfl, _, rfl, fun _ => by rw [ltR_ge hj c_20]; rfl⟩
          | exact gr_ireturn dX9_many_33 rfl (Nat.le_refl _) (Nat.le_refl _) ⟨rfl, _, rfl, fun _ => by rw [ltR_neg c_12]; rfl⟩
      · refine gr_iconst (v := -1) dX9_many_23 (by decide) ?_
        refine gr_goto 33 dX9_many_24 (by decide) ?_
        first
          | exact gr_ireturn dX9_many_33 rfl (Nat.le_refl _) (Nat.le_refl _) ⟨rfl, _, rfl, fun _ => by rw [ltR_lt hj c_20, ix_nI hj]; rfl⟩
          | exact gr_ireturn dX9_many_33 rfl (Nat.le_refl _) (Nat.le_refl _) ⟨rfl, _, rfl, fun _ => by rw [ltR_ge hj c_20]; rfl⟩
          | exact gr_ireturn dX9_many_33 rfl (Nat.le_refl _) (Nat.le_refl _) ⟨rfl, _, rfl, fun _ => by rw [ltR_neg c_12]; rfl⟩

theorem k_ge {k : Int32} (h1 : ¬ k < -1) (h2 : ¬ k = -1) : ¬ k < 0 := fun h => by
  rw [Int32.lt_iff_toInt_lt] at h1 h
  have h3 : k.toInt ≠ -1 := fun z => h2 (Int32.toInt_inj.mp z)
  have e1 : (-1 : Int32).toInt = -1 := by decide
  have e0 : (0 : Int32).toInt = 0 := by decide
  omega
theorem nI_neg1 {n : Nat} (h : n ≤ 13) : (-1 : Int32) < nI n := by
  have : ∀ n, n < 14 → (-1 : Int32) < nI n := by decide
  exact this n (by omega)

set_option maxHeartbeats 4000000 in
set_option maxRecDepth 100000 in
theorem c_manswer (l : Launch) (E : ga_E) (d : Nat) (h : ga_H) (A : Nat → Nat) (hA : ga_inj A 16) (s : Nat → Int32) (fa si sr pu va ro pa ba ma ti ta im sh un : Nat → zp) (pv : Nat → Option Nat) (kn : Bool) (hk : s 8 = bI kn) (n : Nat) (hn : s 9 = nI n) (hn13 : n ≤ 13) (mt : Bool) (hm : s 11 = bI mt) (k p : Int32) : ga_Ok l E (d + 1) mX9_answer [.ref (A 0), .int k, .int p] (mdH E h A s fa si sr pu va ro pa ba ma ti ta im sh pv un) 0 0 (fun r0 h' => h' = mdH E h A (va_up s 0 (nI (cdA kn n mt k p))) fa si sr pu va ro pa ba ma ti ta im sh pv un ∧ ∃ r, r0 = some (.int r) ∧ (cdA kn n mt k p = 0 → r = if k < 0 then nI (pa (ix p)).val else nI (ro (13 * ix k + ix p)).val)) := by
  refine ga_Ok.of 0 _ (by decide) rfl (Nat.le_of_ble_eq_true rfl) rfl ?_
  cases kn
  · refine gr_aload_n dX9_answer_0 rfl ?_
    refine gr_callV dX9_answer_1 (c_unknown l E d h A hA s fa si sr pu va ro pa ba ma ti ta im sh un pv false hk) ysX9_unknown ⟨ml_X9_117, im_X9_unknown, sl_X9_unknown⟩ (md_0 hA) (show vwCl[9]? = some (RX9, TX9, _) from rfl) rfl rfl (Nat.le_of_ble_eq_true rfl) ⟨(Nat.le_refl _), (Nat.le_refl _)⟩ ⟨(Nat.le_refl _), (Nat.le_refl _)⟩ (fun r0 h1 hp9 => ?_)
    obtain ⟨e1, rfl⟩ := hp9
    subst h1
    refine gr_ifeq 9 dX9_answer_4 (by decide) (fun z => absurd z (by decide)) (fun _ => ?_)
    refine gr_iconst (v := nI 0) dX9_answer_7 rfl ?_
    exact gr_ireturn dX9_answer_8 rfl (Nat.le_refl _) (Nat.le_refl _) ⟨rfl, _, rfl, fun z => absurd (show (1 : Nat) = 0 from z) (by decide)⟩
  · refine gr_aload_n dX9_answer_0 rfl ?_
    refine gr_callV dX9_answer_1 (c_unknown l E d h A hA s fa si sr pu va ro pa ba ma ti ta im sh un pv true hk) ysX9_unknown ⟨ml_X9_117, im_X9_unknown, sl_X9_unknown⟩ (md_0 hA) (show vwCl[9]? = some (RX9, TX9, _) from rfl) rfl rfl (Nat.le_of_ble_eq_true rfl) ⟨(Nat.le_refl _), (Nat.le_refl _)⟩ ⟨(Nat.le_refl _), (Nat.le_refl _)⟩ (fun r0 h1 hp9 => ?_)
    obtain ⟨e1, rfl⟩ := hp9
    subst h1
    refine gr_ifeq 9 dX9_answer_4 (by decide) (fun _ => ?_) (fun z => absurd rfl z)
    refine gr_aload_n dX9_answer_9 rfl ?_
    refine gr_iload_n dX9_answer_10 rfl ?_
    refine gr_iconst (v := -1) dX9_answer_11 (by decide) ?_
    refine gr_icmplt 45 dX9_answer_12 (by decide) (fun c_12 => ?_) (fun c_12 => ?_)
    · refine gr_iconst (v := nI 2) dX9_answer_45 rfl ?_
      refine gr_goto 50 dX9_answer_46 (by decide) ?_
      refine gr_putf dX9_answer_50 cls_X9 0 (by decide) fl_X9_7 rfl rfl rfl (Nat.le_of_ble_eq_true rfl) (md_0 hA) ?_
      rw [md_s0 hA]
      refine gr_aload_n dX9_answer_53 rfl ?_
      refine gr_getf dX9_answer_54 cls_X9 0 (by decide) fl_X9_7 (md_0 hA) rfl ?_
      refine gr_ifeq 62 dX9_answer_57 (by decide) (fun z => absurd (show nI 2 = (0 : Int32) from z) (by decide)) (fun _ => ?_)
      refine gr_iconst (v := nI 0) dX9_answer_60 rfl ?_
      have hc : cdA true n mt k p = 2 := by
        unfold cdA
        rw [if_pos rfl, if_neg (fun z => z.2.elim (fun w => absurd (w.1 ▸ c_12) (by decide)) (fun w => absurd w (by rw [ltR_neg (Int32.lt_trans c_12 (by decide))]; decide)))]
      refine gr_ireturn dX9_answer_61 rfl (Nat.le_refl _) (Nat.le_refl _) ⟨by rw [hc, va_uu], _, rfl, fun z => absurd (hc.symm.trans z) (by decide)⟩
    · refine gr_iload_n dX9_answer_15 rfl ?_
      refine gr_aload_n dX9_answer_16 rfl ?_
      refine gr_getf dX9_answer_17 cls_X9 9 (by decide) fl_X9_36 (md_0 hA) rfl (gr_top (congrArg Value.int (show va_up s 0 (nI 0) 9 = nI n from hn)) ?_)
      refine gr_icmpge 45 dX9_answer_20 (by decide) (fun c_20 => ?_) (fun c_20 => ?_)
      · refine gr_iconst (v := nI 2) dX9_answer_45 rfl ?_
        refine gr_goto 50 dX9_answer_46 (by decide) ?_
        refine gr_putf dX9_answer_50 cls_X9 0 (by decide) fl_X9_7 rfl rfl rfl (Nat.le_of_ble_eq_true rfl) (md_0 hA) ?_
        rw [md_s0 hA]
        refine gr_aload_n dX9_answer_53 rfl ?_
        refine gr_getf dX9_answer_54 cls_X9 0 (by decide) fl_X9_7 (md_0 hA) rfl ?_
        refine gr_ifeq 62 dX9_answer_57 (by decide) (fun z => absurd (show nI 2 = (0 : Int32) from z) (by decide)) (fun _ => ?_)
        refine gr_iconst (v := nI 0) dX9_answer_60 rfl ?_
        have hc : cdA true n mt k p = 2 := by
          unfold cdA
          rw [if_pos rfl, if_neg (fun z => z.2.elim (fun w => absurd (w.1 ▸ c_20) (by rw [Int32.not_le]; exact nI_neg1 hn13)) (fun w => by
            obtain ⟨i, h1, h2, rfl⟩ := ltR_of w (by omega)
            exact absurd c_20 (nI_ge h1 (by omega))))]
        refine gr_ireturn dX9_answer_61 rfl (Nat.le_refl _) (Nat.le_refl _) ⟨by rw [hc, va_uu], _, rfl, fun z => absurd (hc.symm.trans z) (by decide)⟩
      · refine gr_iload_n dX9_answer_23 rfl ?_
        refine gr_iconst (v := -1) dX9_answer_24 (by decide) ?_
        refine gr_icmpne 35 dX9_answer_25 (by decide) (fun c_25 => ?_) (fun c_25 => ?_)
        · refine gr_iload_n dX9_answer_35 rfl ?_
          refine gr_iflt 45 dX9_answer_36 (by decide) (fun c_36 => ?_) (fun c_36 => ?_)
          · refine gr_iconst (v := nI 2) dX9_answer_45 rfl ?_
            refine gr_goto 50 dX9_answer_46 (by decide) ?_
            refine gr_putf dX9_answer_50 cls_X9 0 (by decide) fl_X9_7 rfl rfl rfl (Nat.le_of_ble_eq_true rfl) (md_0 hA) ?_
            rw [md_s0 hA]
            refine gr_aload_n dX9_answer_53 rfl ?_
            refine gr_getf dX9_answer_54 cls_X9 0 (by decide) fl_X9_7 (md_0 hA) rfl ?_
            refine gr_ifeq 62 dX9_answer_57 (by decide) (fun z => absurd (show nI 2 = (0 : Int32) from z) (by decide)) (fun _ => ?_)
            refine gr_iconst (v := nI 0) dX9_answer_60 rfl ?_
            have hc : cdA true n mt k p = 2 := by
              unfold cdA
              rw [if_pos rfl, if_neg (fun z => absurd z.1 (by rw [ltR_neg c_36]; decide))]
            refine gr_ireturn dX9_answer_61 rfl (Nat.le_refl _) (Nat.le_refl _) ⟨by rw [hc, va_uu], _, rfl, fun z => absurd (hc.symm.trans z) (by decide)⟩
          · obtain ⟨j, hj, rfl⟩ := nI_of c_36
            refine gr_iload_n dX9_answer_39 rfl ?_
            refine gr_bipush (v := nI 12) dX9_answer_40 (by decide) ?_
            refine gr_icmpleN 49 dX9_answer_42 (by decide) (by omega) (by omega) (fun c_42 => ?_) (fun c_42 => ?_)
            · refine gr_iconst (v := nI 0) dX9_answer_49 rfl ?_
              refine gr_putf dX9_answer_50 cls_X9 0 (by decide) fl_X9_7 rfl rfl rfl (Nat.le_of_ble_eq_true rfl) (md_0 hA) ?_
              rw [md_s0 hA]
              refine gr_aload_n dX9_answer_53 rfl ?_
              refine gr_getf dX9_answer_54 cls_X9 0 (by decide) fl_X9_7 (md_0 hA) rfl ?_
              refine gr_ifeq 62 dX9_answer_57 (by decide) (fun _ => ?_) (fun z => absurd rfl z)
              refine gr_iload_n dX9_answer_62 rfl ?_
              have hk0 : ¬ k < 0 := k_ge c_12 c_25
              obtain ⟨i, hi, rfl⟩ := nI_of hk0
              have hin : i < n := by
                by_cases e : i < n
                · exact e
                · exact absurd (nI_le (by omega) hi) c_20
              refine gr_ifge 75 dX9_answer_63 (by decide) (fun _ => ?_) (fun z => absurd (Int32.not_lt.mp hk0) z)
              refine gr_aload_n dX9_answer_75 rfl ?_
              refine gr_getf dX9_answer_76 cls_X9 10 (by decide) fl_X9_39 (md_0 hA) rfl ?_
              refine gr_bipush (v := nI 13) dX9_answer_79 (by decide) ?_
              refine gr_iload_n dX9_answer_81 rfl ?_
              refine gr_imulN dX9_answer_82 ?_
              refine gr_iload_n dX9_answer_83 rfl ?_
              refine gr_iaddN dX9_answer_84 ?_
              refine gr_ialoadF dX9_answer_85 (md_6 hA) (by omega) (by decide) ?_
              have hc : cdA true n mt (nI i) (nI j) = 0 := by
                unfold cdA
                rw [if_pos rfl, if_pos ⟨ltR_lt hj (by omega), Or.inr (ltR_lt hi hin)⟩]
              exact gr_ireturn dX9_answer_86 rfl (Nat.le_refl _) (Nat.le_refl _) ⟨by rw [hc, va_uu], _, rfl, fun _ => by rw [if_neg hk0, ix_nI hi, ix_nI hj]⟩
            · refine gr_iconst (v := nI 2) dX9_answer_45 rfl ?_
              refine gr_goto 50 dX9_answer_46 (by decide) ?_
              refine gr_putf dX9_answer_50 cls_X9 0 (by decide) fl_X9_7 rfl rfl rfl (Nat.le_of_ble_eq_true rfl) (md_0 hA) ?_
              rw [md_s0 hA]
              refine gr_aload_n dX9_answer_53 rfl ?_
              refine gr_getf dX9_answer_54 cls_X9 0 (by decide) fl_X9_7 (md_0 hA) rfl ?_
              refine gr_ifeq 62 dX9_answer_57 (by decide) (fun z => absurd (show nI 2 = (0 : Int32) from z) (by decide)) (fun _ => ?_)
              refine gr_iconst (v := nI 0) dX9_answer_60 rfl ?_
              have hc : cdA true n mt k (nI j) = 2 := by
                unfold cdA
                rw [if_pos rfl, if_neg (fun z => absurd z.1 (by rw [ltR_ge hj (by omega)]; decide))]
              refine gr_ireturn dX9_answer_61 rfl (Nat.le_refl _) (Nat.le_refl _) ⟨by rw [hc, va_uu], _, rfl, fun z => absurd (hc.symm.trans z) (by decide)⟩
        · refine gr_aload_n dX9_answer_28 rfl ?_
          refine gr_getf dX9_answer_29 cls_X9 11 (by decide) fl_X9_42 (md_0 hA) rfl (gr_top (congrArg Value.int (show va_up s 0 (nI 0) 11 = bI mt from hm)) ?_)
          refine gr_ifeq 45 dX9_answer_32 (by decide) (fun c_32 => ?_) (fun c_32 => ?_)
          · refine gr_iconst (v := nI 2) dX9_answer_45 rfl ?_
            refine gr_goto 50 dX9_answer_46 (by decide) ?_
            refine gr_putf dX9_answer_50 cls_X9 0 (by decide) fl_X9_7 rfl rfl rfl (Nat.le_of_ble_eq_true rfl) (md_0 hA) ?_
            rw [md_s0 hA]
            refine gr_aload_n dX9_answer_53 rfl ?_
            refine gr_getf dX9_answer_54 cls_X9 0 (by decide) fl_X9_7 (md_0 hA) rfl ?_
            refine gr_ifeq 62 dX9_answer_57 (by decide) (fun z => absurd (show nI 2 = (0 : Int32) from z) (by decide)) (fun _ => ?_)
            refine gr_iconst (v := nI 0) dX9_answer_60 rfl ?_
            have hc : cdA true n mt k p = 2 := by
              unfold cdA
              rw [if_pos rfl, if_neg (fun z => z.2.elim (fun w => absurd (w.2 ▸ c_32) (by decide)) (fun w => absurd w (by rw [ltR_neg (by rw [c_25]; decide)]; decide)))]
            refine gr_ireturn dX9_answer_61 rfl (Nat.le_refl _) (Nat.le_refl _) ⟨by rw [hc, va_uu], _, rfl, fun z => absurd (hc.symm.trans z) (by decide)⟩
          · refine gr_iload_n dX9_answer_35 rfl ?_
            refine gr_iflt 45 dX9_answer_36 (by decide) (fun c_36 => ?_) (fun c_36 => ?_)
            · refine gr_iconst (v := nI 2) dX9_answer_45 rfl ?_
              refine gr_goto 50 dX9_answer_46 (by decide) ?_
              refine gr_putf dX9_answer_50 cls_X9 0 (by decide) fl_X9_7 rfl rfl rfl (Nat.le_of_ble_eq_true rfl) (md_0 hA) ?_
              rw [md_s0 hA]
              refine gr_aload_n dX9_answer_53 rfl ?_
              refine gr_getf dX9_answer_54 cls_X9 0 (by decide) fl_X9_7 (md_0 hA) rfl ?_
              refine gr_ifeq 62 dX9_answer_57 (by decide) (fun z => absurd (show nI 2 = (0 : Int32) from z) (by decide)) (fun _ => ?_)
              refine gr_iconst (v := nI 0) dX9_answer_60 rfl ?_
              have hc : cdA true n mt k p = 2 := by
                unfold cdA
                rw [if_pos rfl, if_neg (fun z => absurd z.1 (by rw [ltR_neg c_36]; decide))]
              refine gr_ireturn dX9_answer_61 rfl (Nat.le_refl _) (Nat.le_refl _) ⟨by rw [hc, va_uu], _, rfl, fun z => absurd (hc.symm.trans z) (by decide)⟩
            · obtain ⟨j, hj, rfl⟩ := nI_of c_36
              refine gr_iload_n dX9_answer_39 rfl ?_
              refine gr_bipush (v := nI 12) dX9_answer_40 (by decide) ?_
              refine gr_icmpleN 49 dX9_answer_42 (by decide) (by omega) (by omega) (fun c_42 => ?_) (fun c_42 => ?_)
              · refine gr_iconst (v := nI 0) dX9_answer_49 rfl ?_
                refine gr_putf dX9_answer_50 cls_X9 0 (by decide) fl_X9_7 rfl rfl rfl (Nat.le_of_ble_eq_true rfl) (md_0 hA) ?_
                rw [md_s0 hA]
                refine gr_aload_n dX9_answer_53 rfl ?_
                refine gr_getf dX9_answer_54 cls_X9 0 (by decide) fl_X9_7 (md_0 hA) rfl ?_
                refine gr_ifeq 62 dX9_answer_57 (by decide) (fun _ => ?_) (fun z => absurd rfl z)
                refine gr_iload_n dX9_answer_62 rfl ?_
                refine gr_ifge 75 dX9_answer_63 (by decide) (fun z => absurd z (by rw [c_25]; decide)) (fun _ => ?_)
                refine gr_aload_n dX9_answer_66 rfl ?_
                refine gr_getf dX9_answer_67 cls_X9 12 (by decide) fl_X9_45 (md_0 hA) rfl ?_
                refine gr_iload_n dX9_answer_70 rfl ?_
                refine gr_ialoadF dX9_answer_71 (md_7 hA) (by omega) (by decide) ?_
                refine gr_goto 86 dX9_answer_72 (by decide) ?_
                have hmt : mt = true := by
                  cases mt with
                  | true => rfl
                  | false => exact absurd rfl c_32
                have hc : cdA true n mt k (nI j) = 0 := by
                  unfold cdA
                  rw [if_pos rfl, if_pos ⟨ltR_lt hj (by omega), Or.inl ⟨c_25, hmt⟩⟩]
                exact gr_ireturn dX9_answer_86 rfl (Nat.le_refl _) (Nat.le_refl _) ⟨by rw [hc, va_uu], _, rfl, fun _ => by rw [if_pos (by rw [c_25]; decide), ix_nI hj]⟩
              · refine gr_iconst (v := nI 2) dX9_answer_45 rfl ?_
                refine gr_goto 50 dX9_answer_46 (by decide) ?_
                refine gr_putf dX9_answer_50 cls_X9 0 (by decide) fl_X9_7 rfl rfl rfl (Nat.le_of_ble_eq_true rfl) (md_0 hA) ?_
                rw [md_s0 hA]
                refine gr_aload_n dX9_answer_53 rfl ?_
                refine gr_getf dX9_answer_54 cls_X9 0 (by decide) fl_X9_7 (md_0 hA) rfl ?_
                refine gr_ifeq 62 dX9_answer_57 (by decide) (fun z => absurd (show nI 2 = (0 : Int32) from z) (by decide)) (fun _ => ?_)
                refine gr_iconst (v := nI 0) dX9_answer_60 rfl ?_
                have hc : cdA true n mt k (nI j) = 2 := by
                  unfold cdA
                  rw [if_pos rfl, if_neg (fun z => absurd z.1 (by rw [ltR_ge hj (by omega)]; decide))]
                refine gr_ireturn dX9_answer_61 rfl (Nat.le_refl _) (Nat.le_refl _) ⟨by rw [hc, va_uu], _, rfl, fun z => absurd (hc.symm.trans z) (by decide)⟩
