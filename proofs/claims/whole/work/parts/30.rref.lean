/-! The echelon form: what eliminate keeps; that it is one alone -/
def dot (C : Nat → Nat → zp) (i : Nat) (x : Nat → zp) : zp := zs 14 (fun j => C i j * x j)
def Sol (C : Nat → Nat → zp) (x : Nat → zp) : Prop := ∀ i, i < 19 → dot C i x = 0
theorem Sol.congr {M C : Nat → Nat → zp} (h : ∀ i, i < 19 → ∀ j, j < 14 → C i j = M i j) (x : Nat → zp) : Sol M x ↔ Sol C x := by
  have e : ∀ i, i < 19 → dot M i x = dot C i x := fun i hi => zs_congr (fun j hj => by rw [h i hi j hj])
  constructor
  · intro z i hi; rw [← e i hi]; exact z i hi
  · intro z i hi; rw [e i hi]; exact z i hi
/-- the first c columns are done -/
def EchI (M : Nat → Nat → zp) (c : Nat) (C : Nat → Nat → zp) (u : Nat → Bool) (pv : Nat → Option Nat) : Prop :=
  (∀ x, Sol M x ↔ Sol C x) ∧ (∀ i, i < 19 → u i = true → ∃ j, j < c ∧ pv j = some i) ∧
  (∀ j, j < c → ∀ i, pv j = some i → i < 19 ∧ u i = true ∧ C i j = 1 ∧ (∀ k, k < 19 → k ≠ i → C k j = 0) ∧ ∀ k, k < j → C i k = 0) ∧
  ∀ i, i < 19 → u i = false → ∀ j, j < c → C i j = 0
theorem EchI_0 {M C : Nat → Nat → zp} {u : Nat → Bool} {pv : Nat → Option Nat} (h : ∀ i, i < 19 → ∀ j, j < 14 → C i j = M i j) (hu : ∀ j, j < 19 → u j = false) : EchI M 0 C u pv :=
  ⟨fun x => Sol.congr h x, fun i hi z => absurd ((hu i hi).symm.trans z) (by decide), fun j hj => absurd hj (by omega), fun i _ _ j hj => absurd hj (by omega)⟩
theorem dot_scl {C : Nat → Nat → zp} {p : Nat} {z : zp} {x : Nat → zp} : dot (scl C p z) p x = z * dot C p x := by
  unfold dot
  rw [← zs_mul]
  refine zs_congr (fun j hj => ?_)
  unfold scl
  rw [va_us]
  unfold sclI
  rw [if_pos hj]
  grind
theorem dot_scl_o {C : Nat → Nat → zp} {p i : Nat} {z : zp} {x : Nat → zp} (h : i ≠ p) : dot (scl C p z) i x = dot C i x := by
  unfold dot scl
  rw [va_un h]
theorem Sol_scl {C : Nat → Nat → zp} {p : Nat} {z : zp} (hz : z ≠ 0) (x : Nat → zp) : Sol C x ↔ Sol (scl C p z) x := by
  constructor
  · intro h i hi
    by_cases e : i = p
    · subst e; rw [dot_scl, h i hi]; grind
    · rw [dot_scl_o e]; exact h i hi
  · intro h i hi
    have := h i hi
    by_cases e : i = p
    · subst e; rw [dot_scl] at this
      exact (zno this).resolve_left hz
    · rwa [dot_scl_o e] at this
theorem clr_at {C : Nat → Nat → zp} {c p i j : Nat} (hl : ∀ k, k < c → C p k = 0) (hi : i < 19) (hne : i ≠ p) (hj : j < 14) : clr C c p i j = C i j - C i c * C p j := by
  unfold clr
  rw [if_pos ⟨hi, hne⟩]
  unfold clI
  by_cases h : c ≤ j ∧ j < 14
  · rw [if_pos h]
  · rw [if_neg h, hl j (by omega)]; grind
theorem clr_p {C : Nat → Nat → zp} {c p : Nat} : clr C c p p = C p := if_neg (by omega)
theorem dot_clr {C : Nat → Nat → zp} {c p i : Nat} {x : Nat → zp} (hl : ∀ k, k < c → C p k = 0) (hi : i < 19) (hne : i ≠ p) : dot (clr C c p) i x = dot C i x - C i c * dot C p x := by
  unfold dot
  rw [← zs_mul, ← zs_sub]
  refine zs_congr (fun j hj => ?_)
  rw [clr_at hl hi hne hj]
  grind
theorem Sol_clr {C : Nat → Nat → zp} {c p : Nat} (hp : p < 19) (hl : ∀ k, k < c → C p k = 0) (x : Nat → zp) : Sol C x ↔ Sol (clr C c p) x := by
  have e0 : dot (clr C c p) p x = dot C p x := by unfold dot; rw [clr_p]
  constructor
  · intro h i hi
    by_cases e : i = p
    · subst e; rw [e0]; exact h i hi
    · rw [dot_clr hl hi e, h i hi, h p hp]; grind
  · intro h i hi
    have hpp := h p hp
    rw [e0] at hpp
    by_cases e : i = p
    · subst e; exact hpp
    · have := h i hi
      rw [dot_clr hl hi e, hpp] at this
      grind
theorem EchI_step {M : Nat → Nat → zp} (c : Nat) (C : Nat → Nat → zp) (u : Nat → Bool) (pv : Nat → Option Nat) (o : Option Nat) (hc : c < 13) (h : EchI M c C u pv) (hf : FL u C c o) : EchI M (c + 1) (elC C c o) (elU u o) (va_up pv c o) := by
  obtain ⟨ha, hb, hcc, hd⟩ := h
  rcases hf with ⟨rfl, hz⟩ | ⟨p, rfl, hp, hup, hne⟩
  · refine ⟨ha, fun i hi z => ?_, fun j hj i e => ?_, fun i hi z j hj => ?_⟩
    · obtain ⟨j, h1, h2⟩ := hb i hi z
      exact ⟨j, by omega, by rw [va_un (by omega)]; exact h2⟩
    · by_cases ej : j = c
      · subst ej; rw [va_us] at e; cases e
      · rw [va_un ej] at e; exact hcc j (by omega) i e
    · by_cases ej : j = c
      · subst ej
        rcases hz i hi with z2 | z2
        · have z : u i = false := z
          rw [z] at z2; cases z2
        · exact z2
      · exact hd i hi z j (by omega)
  · show EchI M (c + 1) (clr (scl C p (zinv (C p c))) c p) (va_up u p true) (va_up pv c (some p))
    have hzi := zinv_ne hne
    have hp0 : ∀ k, k < c → scl C p (zinv (C p c)) p k = 0 := fun k hk => by
      unfold scl; rw [va_us]; unfold sclI; rw [if_pos (by omega), hd p hp hup k hk]; grind
    have hp1 : scl C p (zinv (C p c)) p c = 1 := by
      unfold scl; rw [va_us]; unfold sclI; rw [if_pos (by omega)]; exact zinv_mul hne
    have ho : ∀ i, i ≠ p → scl C p (zinv (C p c)) i = C i := fun i e => by unfold scl; rw [va_un e]
    generalize hC1 : scl C p (zinv (C p c)) = C1 at hp0 hp1 ho
    have hle : ∀ i, i < 19 → ∀ k, k < c → clr C1 c p i k = if i = p then 0 else C i k := fun i hi k hk => by
      by_cases e : i = p
      · subst e; rw [if_pos rfl, clr_p]; exact hp0 k hk
      · rw [if_neg e, clr_at hp0 hi e (by omega), hp0 k hk, ho i e]; grind
    have hcol : ∀ i, i < 19 → i ≠ p → clr C1 c p i c = 0 := fun i hi e => by
      rw [clr_at hp0 hi e (by omega), hp1]; grind
    refine ⟨fun x => (ha x).trans (((Sol_scl (C := C) (p := p) hzi x).trans (by rw [hC1])).trans (Sol_clr hp hp0 x)), fun i hi z => ?_, fun j hj i e => ?_, fun i hi z j hj => ?_⟩
    · by_cases e : i = p
      · subst e; exact ⟨c, by omega, va_us⟩
      · rw [va_un e] at z
        obtain ⟨j, h1, h2⟩ := hb i hi z
        exact ⟨j, by omega, by rw [va_un (by omega)]; exact h2⟩
    · by_cases ej : j = c
      · subst ej
        rw [va_us] at e
        cases e
        exact ⟨hp, va_us, by rw [clr_p]; exact hp1, fun k hk hkp => hcol k hk hkp, fun k hk => by rw [clr_p]; exact hp0 k hk⟩
      · rw [va_un ej] at e
        obtain ⟨h1, h2, h3, h4, h5⟩ := hcc j (by omega) i e
        have hip : i ≠ p := fun z => by rw [z, hup] at h2; cases h2
        refine ⟨h1, by rw [va_un hip]; exact h2, ?_, fun k hk hki => ?_, fun k hk => ?_⟩
        · rw [hle i h1 j (by omega), if_neg hip]; exact h3
        · rw [hle k hk j (by omega)]
          split
          · rfl
          · exact h4 k hk hki
        · rw [hle i h1 k (by omega), if_neg hip]; exact h5 k hk
    · have hip : i ≠ p := fun e => by rw [e, va_us] at z; cases z
      rw [va_un hip] at z
      by_cases ej : j = c
      · subst ej; exact hcol i hi hip
      · rw [hle i hi j (by omega), if_neg hip]; exact hd i hi z j (by omega)
/-- the end: the echelon form of M -/
def Ech (M : Nat → Nat → zp) (C : Nat → Nat → zp) (u : Nat → Bool) (pv : Nat → Option Nat) : Prop := EchI M 13 C u pv
theorem vecF_f (C : Nat → Nat → zp) (pv : Nat → Option Nat) (f : Nat) : vecF C pv f f = 1 := if_pos rfl
theorem vecF_free {C : Nat → Nat → zp} {pv : Nat → Option Nat} {f j : Nat} (h : pv j = none) (hn : j ≠ f) : vecF C pv f j = 0 := by
  unfold vecF; rw [if_neg hn, h]
theorem vecF_piv {C : Nat → Nat → zp} {pv : Nat → Option Nat} {f j i : Nat} (h : pv j = some i) (hn : j ≠ f) : vecF C pv f j = -(C i f) := by
  unfold vecF; rw [if_neg hn, h]
section UNI
variable {M C : Nat → Nat → zp} {u : Nat → Bool} {pv : Nat → Option Nat}
/-- a vector's line: only the pivot and the free columns count -/
theorem ech_dot (h : Ech M C u pv) {x : Nat → zp} {j0 i : Nat} (hj : j0 < 13) (hp : pv j0 = some i) (hfree : ∀ j, j < 13 → pv j = none → C i j * x j = 0) : dot C i x = x j0 + C i 13 * x 13 := by
  obtain ⟨h1, h2, h3, h4, h5⟩ := h.2.2.1 j0 hj i hp
  unfold dot
  show zs 13 (fun j => C i j * x j) + C i 13 * x 13 = _
  rw [zs_one hj (fun j hj2 hn => ?_), h3]
  · grind
  · cases hk : pv j with
    | none => exact hfree j hj2 hk
    | some k =>
      obtain ⟨g1, g2, g3, g4, g5⟩ := h.2.2.1 j hj2 k hk
      have : i ≠ k := fun e => by
        subst e
        rcases Nat.lt_or_gt_of_ne hn with z | z
        · have z1 : C i j = 0 := h5 j z
          rw [z1] at g3; exact absurd g3 (by decide)
        · have z1 : C i j0 = 0 := g5 j0 z
          rw [z1] at h3; exact absurd h3 (by decide)
      rw [g4 i h1 this]; grind
theorem ech_unused (h : Ech M C u pv) {i : Nat} (hi : i < 19) (hu : u i = false) (x : Nat → zp) : dot C i x = C i 13 * x 13 := by
  unfold dot
  show zs 13 (fun j => C i j * x j) + C i 13 * x 13 = _
  rw [zs_zero (fun j hj => by rw [h.2.2.2 i hi hu j hj]; grind)]
  grind
theorem ech_line (h : Ech M C u pv) {i : Nat} (hi : i < 19) : u i = false ∨ ∃ j, j < 13 ∧ pv j = some i := by
  cases e : u i with
  | false => exact Or.inl rfl
  | true => exact Or.inr (h.2.1 i hi e)
def vx (C : Nat → Nat → zp) (pv : Nat → Option Nat) (f : Nat) : Nat → zp := fun j => if j < 13 then vecF C pv f j else 0
theorem ech_vec (h : Ech M C u pv) {f : Nat} (hf : f < 13) (hp : pv f = none) : Sol M (vx C pv f) := by
  rw [h.1]
  intro i hi
  rcases ech_line h hi with hu | ⟨j, hj, hpj⟩
  · rw [ech_unused h hi hu, show vx C pv f 13 = 0 from rfl]; grind
  · have hjf : j ≠ f := fun e => by rw [e, hp] at hpj; cases hpj
    unfold dot
    show zs 13 (fun k => C i k * vx C pv f k) + C i 13 * vx C pv f 13 = 0
    rw [show vx C pv f 13 = 0 from rfl, zs_out _ hf, zs_one (k := j) hj (fun k hk hn => ?_)]
    · rw [if_neg hjf]
      rw [show vx C pv f f = 1 from (if_pos hf).trans (vecF_f C pv f), show vx C pv f j = -(C i f) from (if_pos hj).trans (vecF_piv hpj hjf), (h.2.2.1 j hj i hpj).2.2.1]
      grind
    · by_cases e : k = f
      · rw [if_pos e]
      · rw [if_neg e]
        cases hk2 : pv k with
        | none => rw [show vx C pv f k = 0 from (if_pos hk).trans (vecF_free hk2 e)]; grind
        | some m =>
          obtain ⟨g1, g2, g3, g4, g5⟩ := h.2.2.1 k hk m hk2
          obtain ⟨h1, h2, h3, h4, h5⟩ := h.2.2.1 j hj i hpj
          have : i ≠ m := fun z => by
            subst z
            rcases Nat.lt_or_gt_of_ne hn with z | z
            · have z1 : C i k = 0 := h5 k z
              rw [z1] at g3; exact absurd g3 (by decide)
            · have z1 : C i j = 0 := g5 j z
              rw [z1] at h3; exact absurd h3 (by decide)
          rw [g4 i h1 this]; grind
theorem vx_up (h : Ech M C u pv) {f j : Nat} (hj : j < 13) (hfj : f < j) : vx C pv f j = 0 := by
  show (if j < 13 then vecF C pv f j else 0) = 0
  rw [if_pos hj]
  cases hk : pv j with
  | none => exact vecF_free hk (by omega)
  | some i => rw [vecF_piv hk (by omega), (h.2.2.1 j hj i hk).2.2.2.2 f hfj]; grind
theorem ech_head (h : Ech M C u pv) {x : Nat → zp} (hx : Sol M x) (h13 : x 13 = 0) {j i : Nat} (hj : j < 13) (hp : pv j = some i) (hz : ∀ k, j < k → k < 13 → x k = 0) : x j = 0 := by
  rw [h.1] at hx
  have := hx i (h.2.2.1 j hj i hp).1
  rw [ech_dot h hj hp (fun k hk hn => ?_), h13] at this
  · grind
  · rcases Nat.lt_trichotomy k j with z | z | z
    · rw [(h.2.2.1 j hj i hp).2.2.2.2 k z]; grind
    · rw [z, hp] at hn; cases hn
    · rw [hz k z hk]; grind
/-- nothing but 0 answers and is 0 at the heads -/
theorem ech_zero (h : Ech M C u pv) {x : Nat → zp} (hx : Sol M x) (h13 : x 13 = 0) (hz : ∀ j, j < 13 → pv j = none → x j = 0) : ∀ j, j < 13 → x j = 0 := by
  intro j hj
  cases hk : pv j with
  | none => exact hz j hj hk
  | some i =>
    rw [h.1] at hx
    have := hx i (h.2.2.1 j hj i hk).1
    rw [ech_dot h hj hk (fun k hk2 hn => by rw [hz k hk2 hn]; grind), h13] at this
    grind
def px (C : Nat → Nat → zp) (pv : Nat → Option Nat) : Nat → zp := fun j => if j < 13 then (match pv j with | some i => C i 13 | none => 0) else -1
theorem ech_part (h : Ech M C u pv) (hm : ∀ i, i < 19 → u i = true ∨ C i 13 = 0) : Sol M (px C pv) := by
  rw [h.1]
  intro i hi
  rcases ech_line h hi with hu | ⟨j, hj, hpj⟩
  · rw [ech_unused h hi hu]
    rcases hm i hi with z | z
    · rw [hu] at z; cases z
    · rw [z]; grind
  · rw [ech_dot h hj hpj (fun k hk hn => by rw [show px C pv k = 0 by unfold px; rw [if_pos hk, hn]]; grind)]
    rw [show px C pv j = C i 13 by unfold px; rw [if_pos hj, hpj], show px C pv 13 = -1 from rfl]
    grind
theorem ech_meets (h : Ech M C u pv) {x : Nat → zp} (hx : Sol M x) (h13 : x 13 = -1) : ∀ i, i < 19 → u i = true ∨ C i 13 = 0 := by
  intro i hi
  cases e : u i with
  | true => exact Or.inl rfl
  | false =>
    rw [h.1] at hx
    have := hx i hi
    rw [ech_unused h hi e, h13] at this
    exact Or.inr (by grind)
end UNI
theorem Sol_sub {M : Nat → Nat → zp} {x y : Nat → zp} (hx : Sol M x) (hy : Sol M y) : Sol M (fun j => x j - y j) := by
  intro i hi
  have e : dot M i (fun j => x j - y j) = dot M i x - dot M i y := by
    unfold dot
    rw [← zs_sub]
    exact zs_congr (fun j _ => by grind)
  rw [e, hx i hi, hy i hi]; grind
section UN2
variable {M C D : Nat → Nat → zp} {u w : Nat → Bool} {pv qv : Nat → Option Nat}
theorem ech_free1 (h : Ech M C u pv) (k : Ech M D w qv) {f : Nat} (hf : f < 13) (hp : pv f = none) : qv f = none := by
  cases e : qv f with
  | none => rfl
  | some i =>
    have := ech_head k (ech_vec h hf hp) rfl hf e (fun j h1 h2 => vx_up h h2 h1)
    rw [show vx C pv f f = 1 from (if_pos hf).trans (vecF_f C pv f)] at this
    exact absurd this (by decide)
theorem ech_free (h : Ech M C u pv) (k : Ech M D w qv) {f : Nat} (hf : f < 13) : pv f = none ↔ qv f = none := ⟨ech_free1 h k hf, ech_free1 k h hf⟩
theorem ech_vecs (h : Ech M C u pv) (k : Ech M D w qv) {f : Nat} (hf : f < 13) (hp : pv f = none) {j : Nat} (hj : j < 13) : vecF C pv f j = vecF D qv f j := by
  have hq := ech_free1 h k hf hp
  have := ech_zero h (Sol_sub (ech_vec h hf hp) (ech_vec k hf hq)) (by show (0 : zp) - 0 = 0; grind) (fun a ha hn => ?_) j hj
  · have e1 : vx C pv f j = vecF C pv f j := if_pos hj
    have e2 : vx D qv f j = vecF D qv f j := if_pos hj
    rw [e1, e2] at this
    grind
  · have e1 : vx C pv f a = vecF C pv f a := if_pos ha
    have e2 : vx D qv f a = vecF D qv f a := if_pos ha
    show vx C pv f a - vx D qv f a = 0
    rw [e1, e2]
    by_cases e : a = f
    · subst e; rw [vecF_f, vecF_f]; grind
    · rw [vecF_free hn e, vecF_free (ech_free1 h k ha hn) e]; grind
theorem ech_cnt (h : Ech M C u pv) (k : Ech M D w qv) : ∀ {n : Nat}, n ≤ 13 → cnt pv n = cnt qv n
  | 0, _ => rfl
  | n + 1, hn => by
    rw [cnt_s, cnt_s, ech_cnt h k (n := n) (by omega)]
    by_cases e : pv n = none
    · rw [if_pos e, if_pos ((ech_free h k (by omega)).mp e)]
    · rw [if_neg e, if_neg (fun z => e ((ech_free h k (by omega)).mpr z))]
theorem ech_meet (h : Ech M C u pv) (k : Ech M D w qv) : (∀ i, i < 19 → u i = true ∨ C i 13 = 0) ↔ (∀ i, i < 19 → w i = true ∨ D i 13 = 0) := ⟨fun z => ech_meets k (ech_part h z) rfl, fun z => ech_meets h (ech_part k z) rfl⟩
theorem ech_parts (h : Ech M C u pv) (k : Ech M D w qv) (hm : ∀ i, i < 19 → u i = true ∨ C i 13 = 0) {j : Nat} (hj : j < 13) : px C pv j = px D qv j := by
  have := ech_zero h (Sol_sub (ech_part h hm) (ech_part k ((ech_meet h k).mp hm))) (by show (-1 : zp) - -1 = 0; grind) (fun a ha hn => ?_) j hj
  · grind
  · show px C pv a - px D qv a = 0
    rw [show px C pv a = 0 by unfold px; rw [if_pos ha, hn], show px D qv a = 0 by unfold px; rw [if_pos ha, ech_free1 h k ha hn]]
    grind
end UN2
