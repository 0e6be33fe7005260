/-! Longs modulo 32003; max and min; quotients -/
/-- a contract out of a walk, of a class some of whose methods the machine runs by itself -/
theorem ga_Ok.ofF {l : Launch} {E : ga_E} {d : Nat} {M : ga_M} {As : List Value} {h : ga_H} {nc ns : Nat} {Post : Option Value → ga_H → Prop} (k : Nat) (lv : List (Option Value)) (hy : plainFor M.1 = true) (hx : M.2.2.2.2 = []) (ha : (lg_sl As).length ≤ M.2.2.1) (hlv : ga_args As ++ List.replicate k none = lv)
    (g : ga_G l E M (ga_Rm d nc ns) (ga_Z E Post nc ns) 0 lv [] h 0 0) : ga_Ok l E d M As h nc ns Post := by
  unfold ga_Ok Met
  refine MetFree.of_bodySF (code := M.2.1) (maxLocals := M.2.2.1) (ret := M.2.2.2.1) hy ?_ ?_
  · intro args s m h hn
    obtain ⟨meth, c, h1, h2, h3, h4, h5, h6, -, -⟩ := Cond.code_spec hn (atoms_spec (ws := ga_Wd M) h _ List.mem_cons_self)
    exact ⟨meth, c, h1, h2, h3, h4, h5, h6⟩
  · intro p e s m args below meth c s₁ B hml hv _
    have hh0 : s₁.heap = s.heap := by rw [B.state]; rfl
    obtain ⟨rfl, hv⟩ := hv
    have hts := atoms_spec (ws := ga_Wd M) B.pre
    subst hlv
    have he := BodyLoose.noHandlers B (hts _ List.mem_cons_self)
    have K := g p e s m _ below meth c s.heap [] _ ⟨B.exec, B.bytes, hml, B.returns, B.notSynchronized, (name_of_methodNamed B.named B.method).1, findClass_of_methodNamed B.named, fun w hw => hts w (List.mem_cons_of_mem _ hw), hv.1, hv.2.1, by rw [hx]; simpa using he, hv.2.2.1⟩ hv.2.2.2 va_S.rf (ga_L.entry As ha)
    obtain ⟨t, a1, o, b1, b2, b3⟩ := K s₁ hh0 (Stand.of_body B)
    rw [← lg_entry_eq] at a1
    exact ⟨t, o, a1, b1, b2, ⟨b3.1, b3.2⟩⟩
/-- a long as a number -/
def zL (x : Int64) : zp := zo (x.toInt % 32003).toNat
theorem l64_of (x : Int64) : Int64.ofInt x.toInt = x := Int64.ofInt_toInt x
theorem l64_lo (x : Int64) : -9223372036854775808 ≤ x.toInt := Int64.le_toInt x
theorem l64_hi (x : Int64) : x.toInt < 9223372036854775808 := Int64.toInt_lt x
theorem l64_in {i : Int} (h1 : -9223372036854775808 ≤ i) (h2 : i < 9223372036854775808) : (Int64.ofInt i).toInt = i := Int64.toInt_ofInt_of_le h1 h2
theorem l64_tdiv (x : Int64) : x / (32003 : Int64) = Int64.ofInt (x.toInt.tdiv 32003) := by
  have h1 := l64_lo x
  have h2 := l64_hi x
  have e := Int64.toInt_div x (32003 : Int64)
  rw [show (32003 : Int64).toInt = 32003 from rfl] at e
  rw [← l64_of (x / 32003), e]
  apply Int64.toInt_inj.mp
  rw [Int64.toInt_ofInt, Int64.toInt_ofInt]
  exact Int.bmod_bmod
theorem l64_rem (x : Int64) : x - x / (32003 : Int64) * (32003 : Int64) = Int64.ofInt (x.toInt.tmod 32003) := by
  rw [l64_tdiv, Int.tmod_def, Int64.ofInt_sub, Int64.ofInt_mul, l64_of, Int64.mul_comm]
  rfl
theorem l64_remI (x : Int64) : (x - x / (32003 : Int64) * (32003 : Int64)).toInt = x.toInt.tmod 32003 := by
  rw [l64_rem]
  have h1 : x.toInt.tmod 32003 < 32003 := Int.tmod_lt_of_pos _ (by decide)
  have h2 : -32003 < x.toInt.tmod 32003 := Int.lt_tmod_of_pos _ (by decide)
  exact l64_in (by omega) (by omega)
theorem l64_emod (x : Int) : x % 32003 = if x.tmod 32003 < 0 then x.tmod 32003 + 32003 else x.tmod 32003 := by
  have h1 : x.tmod 32003 < 32003 := Int.tmod_lt_of_pos _ (by decide)
  have h2 : -32003 < x.tmod 32003 := Int.lt_tmod_of_pos _ (by decide)
  have h3 := Int.mul_tdiv_add_tmod x 32003
  split <;> omega
theorem zL_val (x : Int64) : ((zL x).val : Int) = x.toInt % 32003 := by
  unfold zL
  rw [zo_val]
  have h1 := Int.emod_nonneg x.toInt (show (32003 : Int) ≠ 0 by decide)
  have h2 := Int.emod_lt_of_pos x.toInt (show (0 : Int) < 32003 by decide)
  omega
theorem zL_neg {x : Int64} (h : (x - x / (32003 : Int64) * (32003 : Int64)).toInt < 0) : x - x / (32003 : Int64) * (32003 : Int64) + (32003 : Int64) = lN (zL x).val := by
  have e := l64_remI x
  rw [e] at h
  have hz := zL_val x
  rw [l64_emod, if_pos h] at hz
  rw [l64_rem, show (32003 : Int64) = Int64.ofInt 32003 from rfl, ← Int64.ofInt_add, ← hz]
  exact Int64.ofInt_eq_ofNat
theorem zL_pos {x : Int64} (h : 0 ≤ (x - x / (32003 : Int64) * (32003 : Int64)).toInt) : x - x / (32003 : Int64) * (32003 : Int64) = lN (zL x).val := by
  have e := l64_remI x
  rw [e] at h
  have hz := zL_val x
  rw [l64_emod, if_neg (by omega)] at hz
  rw [l64_rem, ← hz]
  exact Int64.ofInt_eq_ofNat
theorem l64_xor (x : Int64) : (0 : Int64) ≤ x ^^^ (32003 : Int64) ↔ 0 ≤ x := by
  have key : ∀ y : Int64, (0 : Int64) ≤ y ↔ y.toBitVec.msb = false := fun y => by
    rw [Int64.le_iff_toInt_le, BitVec.msb_eq_toInt]
    show (0 : Int) ≤ y.toBitVec.toInt ↔ _
    simp
  rw [key, key, show (x ^^^ (32003 : Int64)).toBitVec = x.toBitVec ^^^ 32003#64 from rfl, BitVec.msb_xor, show (32003#64).msb = false by decide]
  simp
theorem l64_tm_pos {x : Int64} (h : 0 ≤ x) : 0 ≤ (x - x / (32003 : Int64) * (32003 : Int64)).toInt := by
  rw [l64_remI]
  exact Int.tmod_nonneg _ (by rw [Int64.le_iff_toInt_le] at h; exact h)
theorem l64_tm_neg {x : Int64} (h : ¬ 0 ≤ x) (h2 : ¬ x - x / (32003 : Int64) * (32003 : Int64) = 0) : (x - x / (32003 : Int64) * (32003 : Int64)).toInt < 0 := by
  have h1 : (x - x / (32003 : Int64) * (32003 : Int64)).toInt ≤ 0 := by
    rw [l64_remI]
    have hx : x.toInt ≤ 0 := by rw [Int64.le_iff_toInt_le] at h; have h : ¬ (0 : Int) ≤ x.toInt := h; omega
    have := Int.mul_tdiv_add_tmod x.toInt 32003
    have h5 := Int.tmod_nonneg (a := -x.toInt) 32003 (by omega)
    rw [Int.neg_tmod] at h5
    omega
  have h3 : ¬ (x - x / (32003 : Int64) * (32003 : Int64)).toInt = 0 := fun e => h2 (Int64.toInt_inj.mp e)
  omega

set_option maxHeartbeats 4000000 in
set_option maxRecDepth 100000 in
theorem c_floorMod (l : Launch) (E : ga_E) (d : Nat) (h : ga_H) (x : Int64) : ga_Ok l E d mJ9_floorMod_f86c9 [.long x, .long 32003] h 0 0 (fun r h' => h' = h ∧ r = some (.long (lN (zL x).val))) := by
  refine ga_Ok.ofF 2 _ (by decide +kernel) rfl (Nat.le_of_ble_eq_true rfl) rfl ?_
  refine gr_lload_n dJ9_floorMod_f86c9_0 rfl ?_
  refine gr_lload_n dJ9_floorMod_f86c9_1 rfl ?_
  refine gr_lrem dJ9_floorMod_f86c9_2 (by decide) ?_
  refine gr_lstore dJ9_floorMod_f86c9_3 (by decide) rfl ?_
  refine gr_lload_n dJ9_floorMod_f86c9_5 rfl ?_
  refine gr_lload_n dJ9_floorMod_f86c9_6 rfl ?_
  refine gr_lxor dJ9_floorMod_f86c9_7 ?_
  refine gr_lconst (v := 0) dJ9_floorMod_f86c9_8 rfl ?_
  refine gr_lcmp dJ9_floorMod_f86c9_9 ?_
  refine gr_ifge 25 dJ9_floorMod_f86c9_10 (by decide) (fun c_10 => ?_) (fun c_10 => ?_)
  · refine gr_lload dJ9_floorMod_f86c9_25 rfl ?_
    first | exact gr_lreturn dJ9_floorMod_f86c9_27 rfl (Nat.le_refl _) (Nat.le_refl _) ⟨rfl, by rw [zL_pos (by rw [(lg_cmp_eq _ _).mp c_17]; decide)]⟩ | exact gr_lreturn dJ9_floorMod_f86c9_27 rfl (Nat.le_refl _) (Nat.le_refl _) ⟨rfl, by rw [zL_pos (l64_tm_pos ((l64_xor x).mp ((lg_cmp_ge _ _).mp c_10)))]⟩
  · refine gr_lload dJ9_floorMod_f86c9_13 rfl ?_
    refine gr_lconst (v := 0) dJ9_floorMod_f86c9_15 rfl ?_
    refine gr_lcmp dJ9_floorMod_f86c9_16 ?_
    refine gr_ifeq 25 dJ9_floorMod_f86c9_17 (by decide) (fun c_17 => ?_) (fun c_17 => ?_)
    · refine gr_lload dJ9_floorMod_f86c9_25 rfl ?_
      first | exact gr_lreturn dJ9_floorMod_f86c9_27 rfl (Nat.le_refl _) (Nat.le_refl _) ⟨rfl, by rw [zL_pos (by rw [(lg_cmp_eq _ _).mp c_17]; decide)]⟩ | exact gr_lreturn dJ9_floorMod_f86c9_27 rfl (Nat.le_refl _) (Nat.le_refl _) ⟨rfl, by rw [zL_pos (l64_tm_pos ((l64_xor x).mp ((lg_cmp_ge _ _).mp c_10)))]⟩
    · refine gr_lload dJ9_floorMod_f86c9_20 rfl ?_
      refine gr_lload_n dJ9_floorMod_f86c9_22 rfl ?_
      refine gr_ladd dJ9_floorMod_f86c9_23 ?_
      exact gr_lreturn dJ9_floorMod_f86c9_24 rfl (Nat.le_refl _) (Nat.le_refl _) ⟨rfl, by rw [zL_neg (l64_tm_neg (fun z => c_10 ((lg_cmp_ge _ _).mpr ((l64_xor x).mpr z))) (fun z => c_17 ((lg_cmp_eq _ _).mpr z)))]⟩

set_option maxHeartbeats 4000000 in
set_option maxRecDepth 100000 in
theorem c_of (l : Launch) (E : ga_E) (d : Nat) (h : ga_H) (x : Int64) : ga_Ok l E (d + 1) mX3_of [.long x] h 0 0 (fun r h' => h' = h ∧ r = some (.int (nI (zL x).val))) := by
  refine ga_Ok.of 0 _ (by decide) rfl (Nat.le_of_ble_eq_true rfl) rfl ?_
  refine gr_lload_n dX3_of_0 rfl ?_
  refine gr_ldc2 dX3_of_1 kl_X3_9 ?_
  refine gr_callS dX3_of_4 (c_floorMod l E d h x) ysJ9_floorMod_f86c9 ⟨ml_X3_11, sm_J9_floorMod_f86c9⟩ rfl rfl (Nat.le_of_ble_eq_true rfl) ⟨(Nat.le_refl _), (Nat.le_refl _)⟩ ⟨(Nat.le_refl _), (Nat.le_refl _)⟩ (fun r h1 hp => ?_)
  obtain ⟨e1, rfl⟩ := hp
  subst h1
  refine gr_l2iN dX3_of_7 ?_
  exact gr_ireturn dX3_of_8 rfl (Nat.le_refl _) (Nat.le_refl _) ⟨rfl, rfl⟩

set_option maxHeartbeats 4000000 in
set_option maxRecDepth 100000 in
theorem c_quotient (l : Launch) (E : ga_E) (d : Nat) (h : ga_H) (x y : Int64) : ga_Ok l E (d + 2) mX3_quotient [.long x, .long y] h 0 0 (fun r h' => h' = h ∧ r = some (.int (nI (zL x * zinv (zL y)).val))) := by
  refine ga_Ok.of 0 _ (by decide) rfl (Nat.le_of_ble_eq_true rfl) rfl ?_
  refine gr_lload_n dX3_quotient_0 rfl ?_
  refine gr_callS dX3_quotient_1 (c_of l E d h x) ysX3_of ⟨ml_X3_17, sm_X3_of⟩ rfl rfl (Nat.le_of_ble_eq_true rfl) ⟨(Nat.le_refl _), (Nat.le_refl _)⟩ ⟨(Nat.le_refl _), (Nat.le_refl _)⟩ (fun r h1 hp => ?_)
  obtain ⟨e1, rfl⟩ := hp
  subst h1
  refine gr_lload_n dX3_quotient_4 rfl ?_
  refine gr_callS dX3_quotient_5 (c_of l E d h y) ysX3_of ⟨ml_X3_17, sm_X3_of⟩ rfl rfl (Nat.le_of_ble_eq_true rfl) ⟨(Nat.le_refl _), (Nat.le_refl _)⟩ ⟨(Nat.le_refl _), (Nat.le_refl _)⟩ (fun r h1 hp => ?_)
  obtain ⟨e1, rfl⟩ := hp
  subst h1
  refine gr_callS dX3_quotient_8 (c_inverse l E (d + 1) h (zL y)) ysX3_inverse ⟨ml_X3_23, sm_X3_inverse⟩ rfl rfl (Nat.le_of_ble_eq_true rfl) ⟨(Nat.le_refl _), (Nat.le_refl _)⟩ ⟨(Nat.le_refl _), (Nat.le_refl _)⟩ (fun r h1 hp => ?_)
  obtain ⟨e1, rfl⟩ := hp
  subst h1
  refine gr_mulP dX3_quotient_11 dX3_quotient_12 dX3_quotient_15 ?_
  exact gr_ireturn dX3_quotient_16 rfl (Nat.le_refl _) (Nat.le_refl _) ⟨rfl, rfl⟩

set_option maxHeartbeats 4000000 in
set_option maxRecDepth 100000 in
theorem c_max (l : Launch) (E : ga_E) (d : Nat) (h : ga_H) (x y : Int32) : ga_Ok l E d mJ9_max_7cf53 [.int x, .int y] h 0 0 (fun r h' => h' = h ∧ r = some (.int (if x < y then y else x))) := by
  refine ga_Ok.ofF 0 _ (by decide +kernel) rfl (Nat.le_of_ble_eq_true rfl) rfl ?_
  refine gr_iload_n dJ9_max_7cf53_0 rfl ?_
  refine gr_iload_n dJ9_max_7cf53_1 rfl ?_
  refine gr_icmplt 9 dJ9_max_7cf53_2 (by decide) (fun c_2 => ?_) (fun c_2 => ?_)
  · refine gr_iload_n dJ9_max_7cf53_9 rfl ?_
    exact gr_ireturn dJ9_max_7cf53_10 rfl (Nat.le_refl _) (Nat.le_refl _) ⟨rfl, by rw [if_pos c_2]⟩
  · refine gr_iload_n dJ9_max_7cf53_5 rfl ?_
    refine gr_goto 10 dJ9_max_7cf53_6 (by decide) ?_
    exact gr_ireturn dJ9_max_7cf53_10 rfl (Nat.le_refl _) (Nat.le_refl _) ⟨rfl, by rw [if_neg c_2]⟩

set_option maxHeartbeats 4000000 in
set_option maxRecDepth 100000 in
theorem c_min (l : Launch) (E : ga_E) (d : Nat) (h : ga_H) (x y : Int32) : ga_Ok l E d mJ9_min_7cf53 [.int x, .int y] h 0 0 (fun r h' => h' = h ∧ r = some (.int (if y < x then y else x))) := by
  refine ga_Ok.ofF 0 _ (by decide +kernel) rfl (Nat.le_of_ble_eq_true rfl) rfl ?_
  refine gr_iload_n dJ9_min_7cf53_0 rfl ?_
  refine gr_iload_n dJ9_min_7cf53_1 rfl ?_
  refine gr_icmpgt 9 dJ9_min_7cf53_2 (by decide) (fun c_2 => ?_) (fun c_2 => ?_)
  · refine gr_iload_n dJ9_min_7cf53_9 rfl ?_
    exact gr_ireturn dJ9_min_7cf53_10 rfl (Nat.le_refl _) (Nat.le_refl _) ⟨rfl, by rw [if_pos c_2]⟩
  · refine gr_iload_n dJ9_min_7cf53_5 rfl ?_
    refine gr_goto 10 dJ9_min_7cf53_6 (by decide) ?_
    exact gr_ireturn dJ9_min_7cf53_10 rfl (Nat.le_refl _) (Nat.le_refl _) ⟨rfl, by rw [if_neg c_2]⟩
