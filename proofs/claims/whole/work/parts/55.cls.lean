/-! The picture of the component: 65 cells -/
def cset (c : Nat → va_E) (off m : Nat) (d : Nat → va_E) : Nat → va_E := fun j => if off ≤ j ∧ j < off + m then d (j - off) else c j
theorem cs_in {c : Nat → va_E} {off m k : Nat} {d : Nat → va_E} (hk : k < m) : cset c off m d (off + k) = d k := by
  unfold cset; rw [if_pos (by omega), show off + k - off = k by omega]
theorem cs_1 {c : Nat → va_E} {off : Nat} {x : va_E} : cset c off 1 (fun _ => x) off = x := if_pos (by omega)
theorem cs_out {c : Nat → va_E} {off m j : Nat} {d : Nat → va_E} (h : j < off ∨ off + m ≤ j) : cset c off m d j = c j := if_neg (by omega)
theorem ov_blk {h : ga_H} {Z : Nat → Nat} {c d : Nat → va_E} {n off m : Nat} (hZ : ga_inj Z n) (hm : off + m ≤ n) : ga_ov (ga_ov h Z c n) (fun k => Z (off + k)) d m = ga_ov h Z (cset c off m d) n := by
  obtain ⟨c', e, h1, h2⟩ := ga_ov_sub (h := h) (c := c) (d := d) hZ (fun k => off + k) (m := m) (B := fun k => Z (off + k)) (fun k hk => ⟨by omega, rfl⟩)
  rw [e]
  refine ga_ov_congr (fun j hj => ?_)
  by_cases q : off ≤ j ∧ j < off + m
  · have := h2 (fun i j _ _ z => by omega) (j - off) (by omega)
    rw [show off + (j - off) = j by omega] at this
    rw [this]; exact (if_pos q).symm
  · rw [h1 j (fun k hk z => q (by omega))]; exact (if_neg q).symm
theorem up_blk {h : ga_H} {Z : Nat → Nat} {c : Nat → va_E} {n off : Nat} {x : va_E} (hZ : ga_inj Z n) (hm : off < n) : ga_up (ga_ov h Z c n) (Z off) x = ga_ov h Z (cset c off 1 (fun _ => x)) n := (ga_ov_up hZ hm).trans (ga_ov_congr (fun j hj => by
  by_cases e : j = off
  · rw [e, va_us, cs_1]
  · rw [va_un e, cs_out (by omega)]))
theorem co_rd {h : ga_H} {Z : Nat → Nat} {c : Nat → va_E} {n k : Nat} {x : va_E} (hZ : ga_inj Z n) (hk : k < n) (e : c k = x) : ga_ov h Z c n (Z k) = some x := by rw [ga_ov_at hZ hk, e]
def raF (Z : Nat → Nat) (zk : Bool) : List Value := [.ref (Z 2), .ref (Z 10), .ref (Z 34), .ref (Z 56), .ref (Z 58), .int (bI zk), .ref (Z 1)]
def anF (Z : Nat → Nat) (kn mt : Bool) (bc : Nat) : List Value := [.ref (Z 35), .ref (Z 42), .int (bI kn), .ref (Z 43), .int (bI mt), .ref (Z 45), .int (nI bc), .ref (Z 46), .ref (Z 47)]
def rwR (Z : Nat → Nat) : Nat → Option Nat := fun i => if i < 4 then some (Z (48 + 2 * i)) else none

def coI (E : ga_E) (Z : Nat → Nat) (c : Nat → va_E) (o : Nat) (F : Nat → Nat → zp) (S : Nat → zp) (tr : Nat → zp) (zk : Bool) (kn : Bool) (mt : Bool) (bc : Nat) (n0 : Nat) (rv : Nat → zp) (pa : Nat → zp) (ba : Nat → zp) (bs : Nat → Nat) (bv : Nat → Nat → zp) (sn : Nat) (kv : Nat) (y : Nat → zp) (zn : Nat) (zf : Nat → zp) (cn : Nat) (cf : Nat → zp) : Prop :=
  c 0 = ga_o 8 (raF Z zk) ∧
  c 1 = ga_f E 13 tr ∧
  (∀ k, k < 8 → c (2 + k) = eqC E (fun k => Z (2 + k)) o F S k) ∧
  (∃ (C : Nat → Nat → zp) (u : Nat → Bool) (pv : Nat → Option Nat) (t : Nat → zp), (pz 19 t) ∧ ∀ k, k < 24 → c (10 + k) = lsC E (fun k => Z (10 + k)) C u pv t k) ∧
  c 34 = ga_o 2 (anF Z kn mt bc) ∧
  (∃ (r p i w s : Nat → zp), (pz 7 r ∧ pz 7 p ∧ pz 7 i ∧ pz 7 w ∧ pz 13 s) ∧ ∀ k, k < 7 → c (35 + k) = roC E (fun k => Z (35 + k)) cn cf r p i w s k) ∧
  (∃ tn : Nat → zp, c 42 = ga_f E 7 tn) ∧
  c 43 = ga_o 6 [.ref (Z 44), .int (nI n0)] ∧
  c 44 = ga_f E 169 rv ∧
  c 45 = ga_f E 13 pa ∧
  c 46 = ga_f E 4 ba ∧
  c 47 = ga_rr E 4 (rwR Z) ∧
  (∀ i, i < 4 → c (48 + 2 * i) = ga_o 6 [.ref (Z (49 + 2 * i)), .int (nI (bs i))] ∧ c (49 + 2 * i) = ga_f E 169 (bv i)) ∧
  c 56 = ga_o 7 [.ref (Z 57), .int (nI sn), .int (nI kv)] ∧
  c 57 = ga_f E 301 y ∧
  (∃ (r p i w s : Nat → zp), (pz 7 r ∧ pz 7 p ∧ pz 7 i ∧ pz 7 w ∧ pz 13 s) ∧ ∀ k, k < 7 → c (58 + k) = roC E (fun k => Z (58 + k)) zn zf r p i w s k)
theorem cu_ls {E : ga_E} {Z : Nat → Nat} {c : Nat → va_E} {o : Nat} {F : Nat → Nat → zp} {S : Nat → zp} {tr : Nat → zp} {zk : Bool} {kn : Bool} {mt : Bool} {bc : Nat} {n0 : Nat} {rv : Nat → zp} {pa : Nat → zp} {ba : Nat → zp} {bs : Nat → Nat} {bv : Nat → Nat → zp} {sn : Nat} {kv : Nat} {y : Nat → zp} {zn : Nat} {zf : Nat → zp} {cn : Nat} {cf : Nat → zp} (h : coI E Z c o F S tr zk kn mt bc n0 rv pa ba bs bv sn kv y zn zf cn cf) {C : Nat → Nat → zp} {u : Nat → Bool} {pv : Nat → Option Nat} {t : Nat → zp} (ht : pz 19 t) : coI E Z (cset c 10 24 (lsC E (fun k => Z (10 + k)) C u pv t)) o F S tr zk kn mt bc n0 rv pa ba bs bv sn kv y zn zf cn cf := by
  obtain ⟨h0, h1, heq, hls, h34, hcd, htn, h43, h44, h45, h46, h47, hrw, h56, h57, hzr⟩ := h
  refine ⟨?_, ?_, ?_, ?_, ?_, ?_, ?_, ?_, ?_, ?_, ?_, ?_, ?_, ?_, ?_, ?_⟩
  · exact (cs_out (by omega)).trans h0
  · exact (cs_out (by omega)).trans h1
  · exact fun k hk => (cs_out (by omega)).trans (heq k hk)
  · exact ⟨C, u, pv, t, ht, fun k hk => cs_in hk⟩
  · exact (cs_out (by omega)).trans h34
  · obtain ⟨x0, x1, x2, x3, x4, hz, hk⟩ := hcd
    exact ⟨x0, x1, x2, x3, x4, hz, fun k hk2 => (cs_out (by omega)).trans (hk k hk2)⟩
  · exact htn.elim (fun tn e => ⟨tn, (cs_out (by omega)).trans e⟩)
  · exact (cs_out (by omega)).trans h43
  · exact (cs_out (by omega)).trans h44
  · exact (cs_out (by omega)).trans h45
  · exact (cs_out (by omega)).trans h46
  · exact (cs_out (by omega)).trans h47
  · exact fun i hi => ⟨(cs_out (by omega)).trans (hrw i hi).1, (cs_out (by omega)).trans (hrw i hi).2⟩
  · exact (cs_out (by omega)).trans h56
  · exact (cs_out (by omega)).trans h57
  · obtain ⟨x0, x1, x2, x3, x4, hz, hk⟩ := hzr
    exact ⟨x0, x1, x2, x3, x4, hz, fun k hk2 => (cs_out (by omega)).trans (hk k hk2)⟩

theorem cu_r0 {E : ga_E} {Z : Nat → Nat} {c : Nat → va_E} {o : Nat} {F : Nat → Nat → zp} {S : Nat → zp} {tr : Nat → zp} {zk : Bool} {kn : Bool} {mt : Bool} {bc : Nat} {n0 : Nat} {rv : Nat → zp} {pa : Nat → zp} {ba : Nat → zp} {bs : Nat → Nat} {bv : Nat → Nat → zp} {sn : Nat} {kv : Nat} {y : Nat → zp} {zn : Nat} {zf : Nat → zp} {cn : Nat} {cf : Nat → zp} (h : coI E Z c o F S tr zk kn mt bc n0 rv pa ba bs bv sn kv y zn zf cn cf) (n : Nat) (v : Nat → zp) : coI E Z (cset (cset c 44 1 (fun _ => ga_f E 169 v)) 43 1 (fun _ => ga_o 6 [.ref (Z 44), .int (nI n)])) o F S tr zk kn mt bc n v pa ba bs bv sn kv y zn zf cn cf := by
  obtain ⟨h0, h1, heq, hls, h34, hcd, htn, h43, h44, h45, h46, h47, hrw, h56, h57, hzr⟩ := h
  refine ⟨?_, ?_, ?_, ?_, ?_, ?_, ?_, ?_, ?_, ?_, ?_, ?_, ?_, ?_, ?_, ?_⟩
  · exact ((cs_out (by omega)).trans (cs_out (by omega))).trans h0
  · exact ((cs_out (by omega)).trans (cs_out (by omega))).trans h1
  · exact fun k hk => ((cs_out (by omega)).trans (cs_out (by omega))).trans (heq k hk)
  · obtain ⟨x0, x1, x2, x3, hz, hk⟩ := hls
    exact ⟨x0, x1, x2, x3, hz, fun k hk2 => ((cs_out (by omega)).trans (cs_out (by omega))).trans (hk k hk2)⟩
  · exact ((cs_out (by omega)).trans (cs_out (by omega))).trans h34
  · obtain ⟨x0, x1, x2, x3, x4, hz, hk⟩ := hcd
    exact ⟨x0, x1, x2, x3, x4, hz, fun k hk2 => ((cs_out (by omega)).trans (cs_out (by omega))).trans (hk k hk2)⟩
  · exact htn.elim (fun tn e => ⟨tn, ((cs_out (by omega)).trans (cs_out (by omega))).trans e⟩)
  · exact cs_1
  · exact (cs_out (by omega)).trans cs_1
  · exact ((cs_out (by omega)).trans (cs_out (by omega))).trans h45
  · exact ((cs_out (by omega)).trans (cs_out (by omega))).trans h46
  · exact ((cs_out (by omega)).trans (cs_out (by omega))).trans h47
  · exact fun i hi => ⟨((cs_out (by omega)).trans (cs_out (by omega))).trans (hrw i hi).1, ((cs_out (by omega)).trans (cs_out (by omega))).trans (hrw i hi).2⟩
  · exact ((cs_out (by omega)).trans (cs_out (by omega))).trans h56
  · exact ((cs_out (by omega)).trans (cs_out (by omega))).trans h57
  · obtain ⟨x0, x1, x2, x3, x4, hz, hk⟩ := hzr
    exact ⟨x0, x1, x2, x3, x4, hz, fun k hk2 => ((cs_out (by omega)).trans (cs_out (by omega))).trans (hk k hk2)⟩

theorem cu_ri {E : ga_E} {Z : Nat → Nat} {c : Nat → va_E} {o : Nat} {F : Nat → Nat → zp} {S : Nat → zp} {tr : Nat → zp} {zk : Bool} {kn : Bool} {mt : Bool} {bc : Nat} {n0 : Nat} {rv : Nat → zp} {pa : Nat → zp} {ba : Nat → zp} {bs : Nat → Nat} {bv : Nat → Nat → zp} {sn : Nat} {kv : Nat} {y : Nat → zp} {zn : Nat} {zf : Nat → zp} {cn : Nat} {cf : Nat → zp} (h : coI E Z c o F S tr zk kn mt bc n0 rv pa ba bs bv sn kv y zn zf cn cf) (a n : Nat) (ha : a < 4) (v : Nat → zp) : coI E Z (cset (cset c (49 + 2 * a) 1 (fun _ => ga_f E 169 v)) (48 + 2 * a) 1 (fun _ => ga_o 6 [.ref (Z (49 + 2 * a)), .int (nI n)])) o F S tr zk kn mt bc n0 rv pa ba (va_up bs a n) (va_up bv a v) sn kv y zn zf cn cf := by
  obtain ⟨h0, h1, heq, hls, h34, hcd, htn, h43, h44, h45, h46, h47, hrw, h56, h57, hzr⟩ := h
  refine ⟨?_, ?_, ?_, ?_, ?_, ?_, ?_, ?_, ?_, ?_, ?_, ?_, ?_, ?_, ?_, ?_⟩
  · exact ((cs_out (by omega)).trans (cs_out (by omega))).trans h0
  · exact ((cs_out (by omega)).trans (cs_out (by omega))).trans h1
  · exact fun k hk => ((cs_out (by omega)).trans (cs_out (by omega))).trans (heq k hk)
  · obtain ⟨x0, x1, x2, x3, hz, hk⟩ := hls
    exact ⟨x0, x1, x2, x3, hz, fun k hk2 => ((cs_out (by omega)).trans (cs_out (by omega))).trans (hk k hk2)⟩
  · exact ((cs_out (by omega)).trans (cs_out (by omega))).trans h34
  · obtain ⟨x0, x1, x2, x3, x4, hz, hk⟩ := hcd
    exact ⟨x0, x1, x2, x3, x4, hz, fun k hk2 => ((cs_out (by omega)).trans (cs_out (by omega))).trans (hk k hk2)⟩
  · exact htn.elim (fun tn e => ⟨tn, ((cs_out (by omega)).trans (cs_out (by omega))).trans e⟩)
  · exact ((cs_out (by omega)).trans (cs_out (by omega))).trans h43
  · exact ((cs_out (by omega)).trans (cs_out (by omega))).trans h44
  · exact ((cs_out (by omega)).trans (cs_out (by omega))).trans h45
  · exact ((cs_out (by omega)).trans (cs_out (by omega))).trans h46
  · exact ((cs_out (by omega)).trans (cs_out (by omega))).trans h47
  · intro i hi
    by_cases e : i = a
    · subst e
      rw [va_us, va_us]
      exact ⟨cs_1, (cs_out (by omega)).trans cs_1⟩
    · rw [va_un e, va_un e]
      exact ⟨((cs_out (by omega)).trans (cs_out (by omega))).trans (hrw i hi).1, ((cs_out (by omega)).trans (cs_out (by omega))).trans (hrw i hi).2⟩
  · exact ((cs_out (by omega)).trans (cs_out (by omega))).trans h56
  · exact ((cs_out (by omega)).trans (cs_out (by omega))).trans h57
  · obtain ⟨x0, x1, x2, x3, x4, hz, hk⟩ := hzr
    exact ⟨x0, x1, x2, x3, x4, hz, fun k hk2 => ((cs_out (by omega)).trans (cs_out (by omega))).trans (hk k hk2)⟩

theorem cu_pa {E : ga_E} {Z : Nat → Nat} {c : Nat → va_E} {o : Nat} {F : Nat → Nat → zp} {S : Nat → zp} {tr : Nat → zp} {zk : Bool} {kn : Bool} {mt : Bool} {bc : Nat} {n0 : Nat} {rv : Nat → zp} {pa : Nat → zp} {ba : Nat → zp} {bs : Nat → Nat} {bv : Nat → Nat → zp} {sn : Nat} {kv : Nat} {y : Nat → zp} {zn : Nat} {zf : Nat → zp} {cn : Nat} {cf : Nat → zp} (h : coI E Z c o F S tr zk kn mt bc n0 rv pa ba bs bv sn kv y zn zf cn cf) (v : Nat → zp) : coI E Z (cset c 45 1 (fun _ => ga_f E 13 v)) o F S tr zk kn mt bc n0 rv v ba bs bv sn kv y zn zf cn cf := by
  obtain ⟨h0, h1, heq, hls, h34, hcd, htn, h43, h44, h45, h46, h47, hrw, h56, h57, hzr⟩ := h
  refine ⟨?_, ?_, ?_, ?_, ?_, ?_, ?_, ?_, ?_, ?_, ?_, ?_, ?_, ?_, ?_, ?_⟩
  · exact (cs_out (by omega)).trans h0
  · exact (cs_out (by omega)).trans h1
  · exact fun k hk => (cs_out (by omega)).trans (heq k hk)
  · obtain ⟨x0, x1, x2, x3, hz, hk⟩ := hls
    exact ⟨x0, x1, x2, x3, hz, fun k hk2 => (cs_out (by omega)).trans (hk k hk2)⟩
  · exact (cs_out (by omega)).trans h34
  · obtain ⟨x0, x1, x2, x3, x4, hz, hk⟩ := hcd
    exact ⟨x0, x1, x2, x3, x4, hz, fun k hk2 => (cs_out (by omega)).trans (hk k hk2)⟩
  · exact htn.elim (fun tn e => ⟨tn, (cs_out (by omega)).trans e⟩)
  · exact (cs_out (by omega)).trans h43
  · exact (cs_out (by omega)).trans h44
  · exact cs_1
  · exact (cs_out (by omega)).trans h46
  · exact (cs_out (by omega)).trans h47
  · exact fun i hi => ⟨(cs_out (by omega)).trans (hrw i hi).1, (cs_out (by omega)).trans (hrw i hi).2⟩
  · exact (cs_out (by omega)).trans h56
  · exact (cs_out (by omega)).trans h57
  · obtain ⟨x0, x1, x2, x3, x4, hz, hk⟩ := hzr
    exact ⟨x0, x1, x2, x3, x4, hz, fun k hk2 => (cs_out (by omega)).trans (hk k hk2)⟩

theorem cu_ba {E : ga_E} {Z : Nat → Nat} {c : Nat → va_E} {o : Nat} {F : Nat → Nat → zp} {S : Nat → zp} {tr : Nat → zp} {zk : Bool} {kn : Bool} {mt : Bool} {bc : Nat} {n0 : Nat} {rv : Nat → zp} {pa : Nat → zp} {ba : Nat → zp} {bs : Nat → Nat} {bv : Nat → Nat → zp} {sn : Nat} {kv : Nat} {y : Nat → zp} {zn : Nat} {zf : Nat → zp} {cn : Nat} {cf : Nat → zp} (h : coI E Z c o F S tr zk kn mt bc n0 rv pa ba bs bv sn kv y zn zf cn cf) (v : Nat → zp) : coI E Z (cset c 46 1 (fun _ => ga_f E 4 v)) o F S tr zk kn mt bc n0 rv pa v bs bv sn kv y zn zf cn cf := by
  obtain ⟨h0, h1, heq, hls, h34, hcd, htn, h43, h44, h45, h46, h47, hrw, h56, h57, hzr⟩ := h
  refine ⟨?_, ?_, ?_, ?_, ?_, ?_, ?_, ?_, ?_, ?_, ?_, ?_, ?_, ?_, ?_, ?_⟩
  · exact (cs_out (by omega)).trans h0
  · exact (cs_out (by omega)).trans h1
  · exact fun k hk => (cs_out (by omega)).trans (heq k hk)
  · obtain ⟨x0, x1, x2, x3, hz, hk⟩ := hls
    exact ⟨x0, x1, x2, x3, hz, fun k hk2 => (cs_out (by omega)).trans (hk k hk2)⟩
  · exact (cs_out (by omega)).trans h34
  · obtain ⟨x0, x1, x2, x3, x4, hz, hk⟩ := hcd
    exact ⟨x0, x1, x2, x3, x4, hz, fun k hk2 => (cs_out (by omega)).trans (hk k hk2)⟩
  · exact htn.elim (fun tn e => ⟨tn, (cs_out (by omega)).trans e⟩)
  · exact (cs_out (by omega)).trans h43
  · exact (cs_out (by omega)).trans h44
  · exact (cs_out (by omega)).trans h45
  · exact cs_1
  · exact (cs_out (by omega)).trans h47
  · exact fun i hi => ⟨(cs_out (by omega)).trans (hrw i hi).1, (cs_out (by omega)).trans (hrw i hi).2⟩
  · exact (cs_out (by omega)).trans h56
  · exact (cs_out (by omega)).trans h57
  · obtain ⟨x0, x1, x2, x3, x4, hz, hk⟩ := hzr
    exact ⟨x0, x1, x2, x3, x4, hz, fun k hk2 => (cs_out (by omega)).trans (hk k hk2)⟩

theorem cu_an {E : ga_E} {Z : Nat → Nat} {c : Nat → va_E} {o : Nat} {F : Nat → Nat → zp} {S : Nat → zp} {tr : Nat → zp} {zk : Bool} {kn : Bool} {mt : Bool} {bc : Nat} {n0 : Nat} {rv : Nat → zp} {pa : Nat → zp} {ba : Nat → zp} {bs : Nat → Nat} {bv : Nat → Nat → zp} {sn : Nat} {kv : Nat} {y : Nat → zp} {zn : Nat} {zf : Nat → zp} {cn : Nat} {cf : Nat → zp} (h : coI E Z c o F S tr zk kn mt bc n0 rv pa ba bs bv sn kv y zn zf cn cf) (k1 m1 : Bool) (b1 : Nat) : coI E Z (cset c 34 1 (fun _ => ga_o 2 (anF Z k1 m1 b1))) o F S tr zk k1 m1 b1 n0 rv pa ba bs bv sn kv y zn zf cn cf := by
  obtain ⟨h0, h1, heq, hls, h34, hcd, htn, h43, h44, h45, h46, h47, hrw, h56, h57, hzr⟩ := h
  refine ⟨?_, ?_, ?_, ?_, ?_, ?_, ?_, ?_, ?_, ?_, ?_, ?_, ?_, ?_, ?_, ?_⟩
  · exact (cs_out (by omega)).trans h0
  · exact (cs_out (by omega)).trans h1
  · exact fun k hk => (cs_out (by omega)).trans (heq k hk)
  · obtain ⟨x0, x1, x2, x3, hz, hk⟩ := hls
    exact ⟨x0, x1, x2, x3, hz, fun k hk2 => (cs_out (by omega)).trans (hk k hk2)⟩
  · exact cs_1
  · obtain ⟨x0, x1, x2, x3, x4, hz, hk⟩ := hcd
    exact ⟨x0, x1, x2, x3, x4, hz, fun k hk2 => (cs_out (by omega)).trans (hk k hk2)⟩
  · exact htn.elim (fun tn e => ⟨tn, (cs_out (by omega)).trans e⟩)
  · exact (cs_out (by omega)).trans h43
  · exact (cs_out (by omega)).trans h44
  · exact (cs_out (by omega)).trans h45
  · exact (cs_out (by omega)).trans h46
  · exact (cs_out (by omega)).trans h47
  · exact fun i hi => ⟨(cs_out (by omega)).trans (hrw i hi).1, (cs_out (by omega)).trans (hrw i hi).2⟩
  · exact (cs_out (by omega)).trans h56
  · exact (cs_out (by omega)).trans h57
  · obtain ⟨x0, x1, x2, x3, x4, hz, hk⟩ := hzr
    exact ⟨x0, x1, x2, x3, x4, hz, fun k hk2 => (cs_out (by omega)).trans (hk k hk2)⟩

theorem cu_tn {E : ga_E} {Z : Nat → Nat} {c : Nat → va_E} {o : Nat} {F : Nat → Nat → zp} {S : Nat → zp} {tr : Nat → zp} {zk : Bool} {kn : Bool} {mt : Bool} {bc : Nat} {n0 : Nat} {rv : Nat → zp} {pa : Nat → zp} {ba : Nat → zp} {bs : Nat → Nat} {bv : Nat → Nat → zp} {sn : Nat} {kv : Nat} {y : Nat → zp} {zn : Nat} {zf : Nat → zp} {cn : Nat} {cf : Nat → zp} (h : coI E Z c o F S tr zk kn mt bc n0 rv pa ba bs bv sn kv y zn zf cn cf) (v : Nat → zp) : coI E Z (cset c 42 1 (fun _ => ga_f E 7 v)) o F S tr zk kn mt bc n0 rv pa ba bs bv sn kv y zn zf cn cf := by
  obtain ⟨h0, h1, heq, hls, h34, hcd, htn, h43, h44, h45, h46, h47, hrw, h56, h57, hzr⟩ := h
  refine ⟨?_, ?_, ?_, ?_, ?_, ?_, ?_, ?_, ?_, ?_, ?_, ?_, ?_, ?_, ?_, ?_⟩
  · exact (cs_out (by omega)).trans h0
  · exact (cs_out (by omega)).trans h1
  · exact fun k hk => (cs_out (by omega)).trans (heq k hk)
  · obtain ⟨x0, x1, x2, x3, hz, hk⟩ := hls
    exact ⟨x0, x1, x2, x3, hz, fun k hk2 => (cs_out (by omega)).trans (hk k hk2)⟩
  · exact (cs_out (by omega)).trans h34
  · obtain ⟨x0, x1, x2, x3, x4, hz, hk⟩ := hcd
    exact ⟨x0, x1, x2, x3, x4, hz, fun k hk2 => (cs_out (by omega)).trans (hk k hk2)⟩
  · exact ⟨v, cs_1⟩
  · exact (cs_out (by omega)).trans h43
  · exact (cs_out (by omega)).trans h44
  · exact (cs_out (by omega)).trans h45
  · exact (cs_out (by omega)).trans h46
  · exact (cs_out (by omega)).trans h47
  · exact fun i hi => ⟨(cs_out (by omega)).trans (hrw i hi).1, (cs_out (by omega)).trans (hrw i hi).2⟩
  · exact (cs_out (by omega)).trans h56
  · exact (cs_out (by omega)).trans h57
  · obtain ⟨x0, x1, x2, x3, x4, hz, hk⟩ := hzr
    exact ⟨x0, x1, x2, x3, x4, hz, fun k hk2 => (cs_out (by omega)).trans (hk k hk2)⟩

theorem cu_cd {E : ga_E} {Z : Nat → Nat} {c : Nat → va_E} {o : Nat} {F : Nat → Nat → zp} {S : Nat → zp} {tr : Nat → zp} {zk : Bool} {kn : Bool} {mt : Bool} {bc : Nat} {n0 : Nat} {rv : Nat → zp} {pa : Nat → zp} {ba : Nat → zp} {bs : Nat → Nat} {bv : Nat → Nat → zp} {sn : Nat} {kv : Nat} {y : Nat → zp} {zn : Nat} {zf : Nat → zp} {cn : Nat} {cf : Nat → zp} (h : coI E Z c o F S tr zk kn mt bc n0 rv pa ba bs bv sn kv y zn zf cn cf) (n : Nat) (f : Nat → zp) {r p i w s : Nat → zp} (hz : pz 7 r ∧ pz 7 p ∧ pz 7 i ∧ pz 7 w ∧ pz 13 s) : coI E Z (cset c 35 7 (roC E (fun k => Z (35 + k)) n f r p i w s)) o F S tr zk kn mt bc n0 rv pa ba bs bv sn kv y zn zf n f := by
  obtain ⟨h0, h1, heq, hls, h34, hcd, htn, h43, h44, h45, h46, h47, hrw, h56, h57, hzr⟩ := h
  refine ⟨?_, ?_, ?_, ?_, ?_, ?_, ?_, ?_, ?_, ?_, ?_, ?_, ?_, ?_, ?_, ?_⟩
  · exact (cs_out (by omega)).trans h0
  · exact (cs_out (by omega)).trans h1
  · exact fun k hk => (cs_out (by omega)).trans (heq k hk)
  · obtain ⟨x0, x1, x2, x3, hz, hk⟩ := hls
    exact ⟨x0, x1, x2, x3, hz, fun k hk2 => (cs_out (by omega)).trans (hk k hk2)⟩
  · exact (cs_out (by omega)).trans h34
  · exact ⟨r, p, i, w, s, hz, fun k hk => cs_in hk⟩
  · exact htn.elim (fun tn e => ⟨tn, (cs_out (by omega)).trans e⟩)
  · exact (cs_out (by omega)).trans h43
  · exact (cs_out (by omega)).trans h44
  · exact (cs_out (by omega)).trans h45
  · exact (cs_out (by omega)).trans h46
  · exact (cs_out (by omega)).trans h47
  · exact fun i hi => ⟨(cs_out (by omega)).trans (hrw i hi).1, (cs_out (by omega)).trans (hrw i hi).2⟩
  · exact (cs_out (by omega)).trans h56
  · exact (cs_out (by omega)).trans h57
  · obtain ⟨x0, x1, x2, x3, x4, hz, hk⟩ := hzr
    exact ⟨x0, x1, x2, x3, x4, hz, fun k hk2 => (cs_out (by omega)).trans (hk k hk2)⟩

theorem cu_zr {E : ga_E} {Z : Nat → Nat} {c : Nat → va_E} {o : Nat} {F : Nat → Nat → zp} {S : Nat → zp} {tr : Nat → zp} {zk : Bool} {kn : Bool} {mt : Bool} {bc : Nat} {n0 : Nat} {rv : Nat → zp} {pa : Nat → zp} {ba : Nat → zp} {bs : Nat → Nat} {bv : Nat → Nat → zp} {sn : Nat} {kv : Nat} {y : Nat → zp} {zn : Nat} {zf : Nat → zp} {cn : Nat} {cf : Nat → zp} (h : coI E Z c o F S tr zk kn mt bc n0 rv pa ba bs bv sn kv y zn zf cn cf) (n : Nat) (f : Nat → zp) {r p i w s : Nat → zp} (hz : pz 7 r ∧ pz 7 p ∧ pz 7 i ∧ pz 7 w ∧ pz 13 s) : coI E Z (cset c 58 7 (roC E (fun k => Z (58 + k)) n f r p i w s)) o F S tr zk kn mt bc n0 rv pa ba bs bv sn kv y n f cn cf := by
  obtain ⟨h0, h1, heq, hls, h34, hcd, htn, h43, h44, h45, h46, h47, hrw, h56, h57, hzr⟩ := h
  refine ⟨?_, ?_, ?_, ?_, ?_, ?_, ?_, ?_, ?_, ?_, ?_, ?_, ?_, ?_, ?_, ?_⟩
  · exact (cs_out (by omega)).trans h0
  · exact (cs_out (by omega)).trans h1
  · exact fun k hk => (cs_out (by omega)).trans (heq k hk)
  · obtain ⟨x0, x1, x2, x3, hz, hk⟩ := hls
    exact ⟨x0, x1, x2, x3, hz, fun k hk2 => (cs_out (by omega)).trans (hk k hk2)⟩
  · exact (cs_out (by omega)).trans h34
  · obtain ⟨x0, x1, x2, x3, x4, hz, hk⟩ := hcd
    exact ⟨x0, x1, x2, x3, x4, hz, fun k hk2 => (cs_out (by omega)).trans (hk k hk2)⟩
  · exact htn.elim (fun tn e => ⟨tn, (cs_out (by omega)).trans e⟩)
  · exact (cs_out (by omega)).trans h43
  · exact (cs_out (by omega)).trans h44
  · exact (cs_out (by omega)).trans h45
  · exact (cs_out (by omega)).trans h46
  · exact (cs_out (by omega)).trans h47
  · exact fun i hi => ⟨(cs_out (by omega)).trans (hrw i hi).1, (cs_out (by omega)).trans (hrw i hi).2⟩
  · exact (cs_out (by omega)).trans h56
  · exact (cs_out (by omega)).trans h57
  · exact ⟨r, p, i, w, s, hz, fun k hk => cs_in hk⟩

theorem cu_tr {E : ga_E} {Z : Nat → Nat} {c : Nat → va_E} {o : Nat} {F : Nat → Nat → zp} {S : Nat → zp} {tr : Nat → zp} {zk : Bool} {kn : Bool} {mt : Bool} {bc : Nat} {n0 : Nat} {rv : Nat → zp} {pa : Nat → zp} {ba : Nat → zp} {bs : Nat → Nat} {bv : Nat → Nat → zp} {sn : Nat} {kv : Nat} {y : Nat → zp} {zn : Nat} {zf : Nat → zp} {cn : Nat} {cf : Nat → zp} (h : coI E Z c o F S tr zk kn mt bc n0 rv pa ba bs bv sn kv y zn zf cn cf) (v : Nat → zp) : coI E Z (cset c 1 1 (fun _ => ga_f E 13 v)) o F S v zk kn mt bc n0 rv pa ba bs bv sn kv y zn zf cn cf := by
  obtain ⟨h0, h1, heq, hls, h34, hcd, htn, h43, h44, h45, h46, h47, hrw, h56, h57, hzr⟩ := h
  refine ⟨?_, ?_, ?_, ?_, ?_, ?_, ?_, ?_, ?_, ?_, ?_, ?_, ?_, ?_, ?_, ?_⟩
  · exact (cs_out (by omega)).trans h0
  · exact cs_1
  · exact fun k hk => (cs_out (by omega)).trans (heq k hk)
  · obtain ⟨x0, x1, x2, x3, hz, hk⟩ := hls
    exact ⟨x0, x1, x2, x3, hz, fun k hk2 => (cs_out (by omega)).trans (hk k hk2)⟩
  · exact (cs_out (by omega)).trans h34
  · obtain ⟨x0, x1, x2, x3, x4, hz, hk⟩ := hcd
    exact ⟨x0, x1, x2, x3, x4, hz, fun k hk2 => (cs_out (by omega)).trans (hk k hk2)⟩
  · exact htn.elim (fun tn e => ⟨tn, (cs_out (by omega)).trans e⟩)
  · exact (cs_out (by omega)).trans h43
  · exact (cs_out (by omega)).trans h44
  · exact (cs_out (by omega)).trans h45
  · exact (cs_out (by omega)).trans h46
  · exact (cs_out (by omega)).trans h47
  · exact fun i hi => ⟨(cs_out (by omega)).trans (hrw i hi).1, (cs_out (by omega)).trans (hrw i hi).2⟩
  · exact (cs_out (by omega)).trans h56
  · exact (cs_out (by omega)).trans h57
  · obtain ⟨x0, x1, x2, x3, x4, hz, hk⟩ := hzr
    exact ⟨x0, x1, x2, x3, x4, hz, fun k hk2 => (cs_out (by omega)).trans (hk k hk2)⟩

theorem cu_z0 {E : ga_E} {Z : Nat → Nat} {c : Nat → va_E} {o : Nat} {F : Nat → Nat → zp} {S : Nat → zp} {tr : Nat → zp} {zk : Bool} {kn : Bool} {mt : Bool} {bc : Nat} {n0 : Nat} {rv : Nat → zp} {pa : Nat → zp} {ba : Nat → zp} {bs : Nat → Nat} {bv : Nat → Nat → zp} {sn : Nat} {kv : Nat} {y : Nat → zp} {zn : Nat} {zf : Nat → zp} {cn : Nat} {cf : Nat → zp} (h : coI E Z c o F S tr zk kn mt bc n0 rv pa ba bs bv sn kv y zn zf cn cf) (b : Bool) : coI E Z (cset c 0 1 (fun _ => ga_o 8 (raF Z b))) o F S tr b kn mt bc n0 rv pa ba bs bv sn kv y zn zf cn cf := by
  obtain ⟨h0, h1, heq, hls, h34, hcd, htn, h43, h44, h45, h46, h47, hrw, h56, h57, hzr⟩ := h
  refine ⟨?_, ?_, ?_, ?_, ?_, ?_, ?_, ?_, ?_, ?_, ?_, ?_, ?_, ?_, ?_, ?_⟩
  · exact cs_1
  · exact (cs_out (by omega)).trans h1
  · exact fun k hk => (cs_out (by omega)).trans (heq k hk)
  · obtain ⟨x0, x1, x2, x3, hz, hk⟩ := hls
    exact ⟨x0, x1, x2, x3, hz, fun k hk2 => (cs_out (by omega)).trans (hk k hk2)⟩
  · exact (cs_out (by omega)).trans h34
  · obtain ⟨x0, x1, x2, x3, x4, hz, hk⟩ := hcd
    exact ⟨x0, x1, x2, x3, x4, hz, fun k hk2 => (cs_out (by omega)).trans (hk k hk2)⟩
  · exact htn.elim (fun tn e => ⟨tn, (cs_out (by omega)).trans e⟩)
  · exact (cs_out (by omega)).trans h43
  · exact (cs_out (by omega)).trans h44
  · exact (cs_out (by omega)).trans h45
  · exact (cs_out (by omega)).trans h46
  · exact (cs_out (by omega)).trans h47
  · exact fun i hi => ⟨(cs_out (by omega)).trans (hrw i hi).1, (cs_out (by omega)).trans (hrw i hi).2⟩
  · exact (cs_out (by omega)).trans h56
  · exact (cs_out (by omega)).trans h57
  · obtain ⟨x0, x1, x2, x3, x4, hz, hk⟩ := hzr
    exact ⟨x0, x1, x2, x3, x4, hz, fun k hk2 => (cs_out (by omega)).trans (hk k hk2)⟩

theorem cu_v0 {E : ga_E} {Z : Nat → Nat} {c : Nat → va_E} {o : Nat} {F : Nat → Nat → zp} {S : Nat → zp} {tr : Nat → zp} {zk : Bool} {kn : Bool} {mt : Bool} {bc : Nat} {n0 : Nat} {rv : Nat → zp} {pa : Nat → zp} {ba : Nat → zp} {bs : Nat → Nat} {bv : Nat → Nat → zp} {sn : Nat} {kv : Nat} {y : Nat → zp} {zn : Nat} {zf : Nat → zp} {cn : Nat} {cf : Nat → zp} (h : coI E Z c o F S tr zk kn mt bc n0 rv pa ba bs bv sn kv y zn zf cn cf) (a b : Nat) : coI E Z (cset c 56 1 (fun _ => ga_o 7 [.ref (Z 57), .int (nI a), .int (nI b)])) o F S tr zk kn mt bc n0 rv pa ba bs bv a b y zn zf cn cf := by
  obtain ⟨h0, h1, heq, hls, h34, hcd, htn, h43, h44, h45, h46, h47, hrw, h56, h57, hzr⟩ := h
  refine ⟨?_, ?_, ?_, ?_, ?_, ?_, ?_, ?_, ?_, ?_, ?_, ?_, ?_, ?_, ?_, ?_⟩
  · exact (cs_out (by omega)).trans h0
  · exact (cs_out (by omega)).trans h1
  · exact fun k hk => (cs_out (by omega)).trans (heq k hk)
  · obtain ⟨x0, x1, x2, x3, hz, hk⟩ := hls
    exact ⟨x0, x1, x2, x3, hz, fun k hk2 => (cs_out (by omega)).trans (hk k hk2)⟩
  · exact (cs_out (by omega)).trans h34
  · obtain ⟨x0, x1, x2, x3, x4, hz, hk⟩ := hcd
    exact ⟨x0, x1, x2, x3, x4, hz, fun k hk2 => (cs_out (by omega)).trans (hk k hk2)⟩
  · exact htn.elim (fun tn e => ⟨tn, (cs_out (by omega)).trans e⟩)
  · exact (cs_out (by omega)).trans h43
  · exact (cs_out (by omega)).trans h44
  · exact (cs_out (by omega)).trans h45
  · exact (cs_out (by omega)).trans h46
  · exact (cs_out (by omega)).trans h47
  · exact fun i hi => ⟨(cs_out (by omega)).trans (hrw i hi).1, (cs_out (by omega)).trans (hrw i hi).2⟩
  · exact cs_1
  · exact (cs_out (by omega)).trans h57
  · obtain ⟨x0, x1, x2, x3, x4, hz, hk⟩ := hzr
    exact ⟨x0, x1, x2, x3, x4, hz, fun k hk2 => (cs_out (by omega)).trans (hk k hk2)⟩

theorem cu_v1 {E : ga_E} {Z : Nat → Nat} {c : Nat → va_E} {o : Nat} {F : Nat → Nat → zp} {S : Nat → zp} {tr : Nat → zp} {zk : Bool} {kn : Bool} {mt : Bool} {bc : Nat} {n0 : Nat} {rv : Nat → zp} {pa : Nat → zp} {ba : Nat → zp} {bs : Nat → Nat} {bv : Nat → Nat → zp} {sn : Nat} {kv : Nat} {y : Nat → zp} {zn : Nat} {zf : Nat → zp} {cn : Nat} {cf : Nat → zp} (h : coI E Z c o F S tr zk kn mt bc n0 rv pa ba bs bv sn kv y zn zf cn cf) (v : Nat → zp) : coI E Z (cset c 57 1 (fun _ => ga_f E 301 v)) o F S tr zk kn mt bc n0 rv pa ba bs bv sn kv v zn zf cn cf := by
  obtain ⟨h0, h1, heq, hls, h34, hcd, htn, h43, h44, h45, h46, h47, hrw, h56, h57, hzr⟩ := h
  refine ⟨?_, ?_, ?_, ?_, ?_, ?_, ?_, ?_, ?_, ?_, ?_, ?_, ?_, ?_, ?_, ?_⟩
  · exact (cs_out (by omega)).trans h0
  · exact (cs_out (by omega)).trans h1
  · exact fun k hk => (cs_out (by omega)).trans (heq k hk)
  · obtain ⟨x0, x1, x2, x3, hz, hk⟩ := hls
    exact ⟨x0, x1, x2, x3, hz, fun k hk2 => (cs_out (by omega)).trans (hk k hk2)⟩
  · exact (cs_out (by omega)).trans h34
  · obtain ⟨x0, x1, x2, x3, x4, hz, hk⟩ := hcd
    exact ⟨x0, x1, x2, x3, x4, hz, fun k hk2 => (cs_out (by omega)).trans (hk k hk2)⟩
  · exact htn.elim (fun tn e => ⟨tn, (cs_out (by omega)).trans e⟩)
  · exact (cs_out (by omega)).trans h43
  · exact (cs_out (by omega)).trans h44
  · exact (cs_out (by omega)).trans h45
  · exact (cs_out (by omega)).trans h46
  · exact (cs_out (by omega)).trans h47
  · exact fun i hi => ⟨(cs_out (by omega)).trans (hrw i hi).1, (cs_out (by omega)).trans (hrw i hi).2⟩
  · exact (cs_out (by omega)).trans h56
  · exact cs_1
  · obtain ⟨x0, x1, x2, x3, x4, hz, hk⟩ := hzr
    exact ⟨x0, x1, x2, x3, x4, hz, fun k hk2 => (cs_out (by omega)).trans (hk k hk2)⟩

theorem eqC_s (E : ga_E) (B : Nat → Nat) (o : Nat) (F : Nat → Nat → zp) (S : Nat → zp) (k : Nat) : eqC E B o F S (k + 2) = if k < 5 then ga_f E 7 (F k) else ga_f E 11 S := rfl
theorem cu_eq {E : ga_E} {Z : Nat → Nat} {c : Nat → va_E} {o : Nat} {F : Nat → Nat → zp} {S : Nat → zp} {tr : Nat → zp} {zk : Bool} {kn : Bool} {mt : Bool} {bc : Nat} {n0 : Nat} {rv : Nat → zp} {pa : Nat → zp} {ba : Nat → zp} {bs : Nat → Nat} {bv : Nat → Nat → zp} {sn : Nat} {kv : Nat} {y : Nat → zp} {zn : Nat} {zf : Nat → zp} {cn : Nat} {cf : Nat → zp} (h : coI E Z c o F S tr zk kn mt bc n0 rv pa ba bs bv sn kv y zn zf cn cf) (i : Nat) (hi : i < 5) (v : Nat → zp) : coI E Z (cset c (4 + i) 1 (fun _ => ga_f E 7 v)) o (va_up F i v) S tr zk kn mt bc n0 rv pa ba bs bv sn kv y zn zf cn cf := by
  obtain ⟨h0, h1, heq, hls, h34, hcd, htn, h43, h44, h45, h46, h47, hrw, h56, h57, hzr⟩ := h
  refine ⟨?_, ?_, ?_, ?_, ?_, ?_, ?_, ?_, ?_, ?_, ?_, ?_, ?_, ?_, ?_, ?_⟩
  · exact (cs_out (by omega)).trans h0
  · exact (cs_out (by omega)).trans h1
  · intro k hk
    match k, hk with
    | 0, _ => exact (cs_out (by omega)).trans (heq 0 (by omega))
    | 1, _ => exact (cs_out (by omega)).trans (heq 1 (by omega))
    | k + 2, hk =>
      have hk0 := heq (k + 2) hk
      rw [eqC_s] at hk0 ⊢
      by_cases e : k = i
      · subst e
        rw [if_pos hi, va_us, show 2 + (k + 2) = 4 + k by omega]
        exact cs_1
      · rw [cs_out (by omega), hk0, va_un e]
  · obtain ⟨x0, x1, x2, x3, hz, hk⟩ := hls
    exact ⟨x0, x1, x2, x3, hz, fun k hk2 => (cs_out (by omega)).trans (hk k hk2)⟩
  · exact (cs_out (by omega)).trans h34
  · obtain ⟨x0, x1, x2, x3, x4, hz, hk⟩ := hcd
    exact ⟨x0, x1, x2, x3, x4, hz, fun k hk2 => (cs_out (by omega)).trans (hk k hk2)⟩
  · exact htn.elim (fun tn e => ⟨tn, (cs_out (by omega)).trans e⟩)
  · exact (cs_out (by omega)).trans h43
  · exact (cs_out (by omega)).trans h44
  · exact (cs_out (by omega)).trans h45
  · exact (cs_out (by omega)).trans h46
  · exact (cs_out (by omega)).trans h47
  · exact fun i hi => ⟨(cs_out (by omega)).trans (hrw i hi).1, (cs_out (by omega)).trans (hrw i hi).2⟩
  · exact (cs_out (by omega)).trans h56
  · exact (cs_out (by omega)).trans h57
  · obtain ⟨x0, x1, x2, x3, x4, hz, hk⟩ := hzr
    exact ⟨x0, x1, x2, x3, x4, hz, fun k hk2 => (cs_out (by omega)).trans (hk k hk2)⟩

theorem cu_rs {E : ga_E} {Z : Nat → Nat} {c : Nat → va_E} {o : Nat} {F : Nat → Nat → zp} {S : Nat → zp} {tr : Nat → zp} {zk : Bool} {kn : Bool} {mt : Bool} {bc : Nat} {n0 : Nat} {rv : Nat → zp} {pa : Nat → zp} {ba : Nat → zp} {bs : Nat → Nat} {bv : Nat → Nat → zp} {sn : Nat} {kv : Nat} {y : Nat → zp} {zn : Nat} {zf : Nat → zp} {cn : Nat} {cf : Nat → zp} (h : coI E Z c o F S tr zk kn mt bc n0 rv pa ba bs bv sn kv y zn zf cn cf) (v : Nat → zp) : coI E Z (cset c 9 1 (fun _ => ga_f E 11 v)) o F v tr zk kn mt bc n0 rv pa ba bs bv sn kv y zn zf cn cf := by
  obtain ⟨h0, h1, heq, hls, h34, hcd, htn, h43, h44, h45, h46, h47, hrw, h56, h57, hzr⟩ := h
  refine ⟨?_, ?_, ?_, ?_, ?_, ?_, ?_, ?_, ?_, ?_, ?_, ?_, ?_, ?_, ?_, ?_⟩
  · exact (cs_out (by omega)).trans h0
  · exact (cs_out (by omega)).trans h1
  · intro k hk
    match k, hk with
    | 0, _ => exact (cs_out (by omega)).trans (heq 0 (by omega))
    | 1, _ => exact (cs_out (by omega)).trans (heq 1 (by omega))
    | k + 2, hk =>
      have hk0 := heq (k + 2) hk
      rw [eqC_s] at hk0 ⊢
      by_cases e : k < 5
      · rw [if_pos e] at hk0 ⊢
        exact (cs_out (by omega)).trans hk0
      · rw [if_neg e]
        have : k = 5 := by omega
        subst this
        exact cs_1
  · obtain ⟨x0, x1, x2, x3, hz, hk⟩ := hls
    exact ⟨x0, x1, x2, x3, hz, fun k hk2 => (cs_out (by omega)).trans (hk k hk2)⟩
  · exact (cs_out (by omega)).trans h34
  · obtain ⟨x0, x1, x2, x3, x4, hz, hk⟩ := hcd
    exact ⟨x0, x1, x2, x3, x4, hz, fun k hk2 => (cs_out (by omega)).trans (hk k hk2)⟩
  · exact htn.elim (fun tn e => ⟨tn, (cs_out (by omega)).trans e⟩)
  · exact (cs_out (by omega)).trans h43
  · exact (cs_out (by omega)).trans h44
  · exact (cs_out (by omega)).trans h45
  · exact (cs_out (by omega)).trans h46
  · exact (cs_out (by omega)).trans h47
  · exact fun i hi => ⟨(cs_out (by omega)).trans (hrw i hi).1, (cs_out (by omega)).trans (hrw i hi).2⟩
  · exact (cs_out (by omega)).trans h56
  · exact (cs_out (by omega)).trans h57
  · obtain ⟨x0, x1, x2, x3, x4, hz, hk⟩ := hzr
    exact ⟨x0, x1, x2, x3, x4, hz, fun k hk2 => (cs_out (by omega)).trans (hk k hk2)⟩

section CLR
variable {E : ga_E} {h : ga_H} {Z : Nat → Nat} {c : Nat → va_E} {o : Nat} {F : Nat → Nat → zp} {S : Nat → zp} {tr : Nat → zp} {zk : Bool} {kn : Bool} {mt : Bool} {bc : Nat} {n0 : Nat} {rv : Nat → zp} {pa : Nat → zp} {ba : Nat → zp} {bs : Nat → Nat} {bv : Nat → Nat → zp} {sn : Nat} {kv : Nat} {y : Nat → zp} {zn : Nat} {zf : Nat → zp} {cn : Nat} {cf : Nat → zp}
theorem co_eq (hZ : ga_inj Z 65) (h0 : coI E Z c o F S tr zk kn mt bc n0 rv pa ba bs bv sn kv y zn zf cn cf) : eqAt E (ga_ov h Z c 65) (fun k => Z (2 + k)) o F S := fun k hk => co_rd hZ (by omega) (h0.2.2.1 k hk)
theorem co_ra (hZ : ga_inj Z 65) (h0 : coI E Z c o F S tr zk kn mt bc n0 rv pa ba bs bv sn kv y zn zf cn cf) : ga_ov h Z c 65 (Z 0) = some (ga_o 8 (raF Z zk)) := co_rd hZ (by omega) h0.1
theorem co_tr (hZ : ga_inj Z 65) (h0 : coI E Z c o F S tr zk kn mt bc n0 rv pa ba bs bv sn kv y zn zf cn cf) : ga_ov h Z c 65 (Z 1) = some (ga_f E 13 tr) := co_rd hZ (by omega) h0.2.1
theorem co_an (hZ : ga_inj Z 65) (h0 : coI E Z c o F S tr zk kn mt bc n0 rv pa ba bs bv sn kv y zn zf cn cf) : ga_ov h Z c 65 (Z 34) = some (ga_o 2 (anF Z kn mt bc)) := co_rd hZ (by omega) h0.2.2.2.2.1
theorem co_r0 (hZ : ga_inj Z 65) (h0 : coI E Z c o F S tr zk kn mt bc n0 rv pa ba bs bv sn kv y zn zf cn cf) : ga_ov h Z c 65 (Z 43) = some (ga_o 6 [.ref (Z 44), .int (nI n0)]) := co_rd hZ (by omega) h0.2.2.2.2.2.2.2.1
theorem co_rv (hZ : ga_inj Z 65) (h0 : coI E Z c o F S tr zk kn mt bc n0 rv pa ba bs bv sn kv y zn zf cn cf) : ga_ov h Z c 65 (Z 44) = some (ga_f E 169 rv) := co_rd hZ (by omega) h0.2.2.2.2.2.2.2.2.1
theorem co_pa (hZ : ga_inj Z 65) (h0 : coI E Z c o F S tr zk kn mt bc n0 rv pa ba bs bv sn kv y zn zf cn cf) : ga_ov h Z c 65 (Z 45) = some (ga_f E 13 pa) := co_rd hZ (by omega) h0.2.2.2.2.2.2.2.2.2.1
theorem co_ba (hZ : ga_inj Z 65) (h0 : coI E Z c o F S tr zk kn mt bc n0 rv pa ba bs bv sn kv y zn zf cn cf) : ga_ov h Z c 65 (Z 46) = some (ga_f E 4 ba) := co_rd hZ (by omega) h0.2.2.2.2.2.2.2.2.2.2.1
theorem co_br (hZ : ga_inj Z 65) (h0 : coI E Z c o F S tr zk kn mt bc n0 rv pa ba bs bv sn kv y zn zf cn cf) : ga_ov h Z c 65 (Z 47) = some (ga_rr E 4 (rwR Z)) := co_rd hZ (by omega) h0.2.2.2.2.2.2.2.2.2.2.2.1
theorem co_ro (hZ : ga_inj Z 65) (h0 : coI E Z c o F S tr zk kn mt bc n0 rv pa ba bs bv sn kv y zn zf cn cf) {i : Nat} (hi : i < 4) : ga_ov h Z c 65 (Z (48 + 2 * i)) = some (ga_o 6 [.ref (Z (49 + 2 * i)), .int (nI (bs i))]) := co_rd hZ (by omega) (h0.2.2.2.2.2.2.2.2.2.2.2.2.1 i hi).1
theorem co_rn (hZ : ga_inj Z 65) (h0 : coI E Z c o F S tr zk kn mt bc n0 rv pa ba bs bv sn kv y zn zf cn cf) {i : Nat} (hi : i < 4) : ga_ov h Z c 65 (Z (49 + 2 * i)) = some (ga_f E 169 (bv i)) := co_rd hZ (by omega) (h0.2.2.2.2.2.2.2.2.2.2.2.2.1 i hi).2
theorem co_v0 (hZ : ga_inj Z 65) (h0 : coI E Z c o F S tr zk kn mt bc n0 rv pa ba bs bv sn kv y zn zf cn cf) : ga_ov h Z c 65 (Z 56) = some (ga_o 7 [.ref (Z 57), .int (nI sn), .int (nI kv)]) := co_rd hZ (by omega) h0.2.2.2.2.2.2.2.2.2.2.2.2.2.1
theorem co_v1 (hZ : ga_inj Z 65) (h0 : coI E Z c o F S tr zk kn mt bc n0 rv pa ba bs bv sn kv y zn zf cn cf) : ga_ov h Z c 65 (Z 57) = some (ga_f E 301 y) := co_rd hZ (by omega) h0.2.2.2.2.2.2.2.2.2.2.2.2.2.2.1
theorem co_ls (hZ : ga_inj Z 65) (h0 : coI E Z c o F S tr zk kn mt bc n0 rv pa ba bs bv sn kv y zn zf cn cf) : ∃ C u pv t, pz 19 t ∧ ga_ov h Z c 65 = lsH E (ga_ov h Z c 65) (fun k => Z (10 + k)) C u pv t := by
  obtain ⟨C, u, pv, t, ht, hk⟩ := h0.2.2.2.1
  exact ⟨C, u, pv, t, ht, (ga_ov_self (fun k hk2 => co_rd hZ (by omega) (hk k hk2))).symm⟩
theorem co_cd (hZ : ga_inj Z 65) (h0 : coI E Z c o F S tr zk kn mt bc n0 rv pa ba bs bv sn kv y zn zf cn cf) : ∃ r p i w s, (pz 7 r ∧ pz 7 p ∧ pz 7 i ∧ pz 7 w ∧ pz 13 s) ∧ ga_ov h Z c 65 = roH E (ga_ov h Z c 65) (fun k => Z (35 + k)) cn cf r p i w s := by
  obtain ⟨r, p, i, w, s, hz, hk⟩ := h0.2.2.2.2.2.1
  exact ⟨r, p, i, w, s, hz, (ga_ov_self (fun k hk2 => co_rd hZ (by omega) (hk k hk2))).symm⟩
theorem co_zr (hZ : ga_inj Z 65) (h0 : coI E Z c o F S tr zk kn mt bc n0 rv pa ba bs bv sn kv y zn zf cn cf) : ∃ r p i w s, (pz 7 r ∧ pz 7 p ∧ pz 7 i ∧ pz 7 w ∧ pz 13 s) ∧ ga_ov h Z c 65 = roH E (ga_ov h Z c 65) (fun k => Z (58 + k)) zn zf r p i w s := by
  obtain ⟨r, p, i, w, s, hz, hk⟩ := h0.2.2.2.2.2.2.2.2.2.2.2.2.2.2.2
  exact ⟨r, p, i, w, s, hz, (ga_ov_self (fun k hk2 => co_rd hZ (by omega) (hk k hk2))).symm⟩
end CLR
theorem inj_sub {Z : Nat → Nat} {n off m : Nat} (hZ : ga_inj Z n) (hm : off + m ≤ n) : ga_inj (fun k => Z (off + k)) m := fun i j hi hj e => by
  have := hZ (off + i) (off + j) (by omega) (by omega) e
  omega
