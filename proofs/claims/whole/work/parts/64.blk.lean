/-! Making objects: the new cells as one block over the heap that was there before -/
theorem ga_ov_ext {h H : ga_H} {Z : Nat → Nat} {c : Nat → va_E} {n : Nat} (hZ : ga_inj Z n) (h1 : ∀ k, k < n → H (Z k) = some (c k)) (h2 : ∀ q, (∀ k, k < n → q ≠ Z k) → H q = h q) : H = ga_ov h Z c n := by
  funext q
  by_cases e : ∃ k, k < n ∧ q = Z k
  · obtain ⟨k, hk, rfl⟩ := e
    rw [h1 k hk, ga_ov_at hZ hk]
  · have e2 : ∀ k, k < n → q ≠ Z k := fun k hk z => e ⟨k, hk, z⟩
    rw [h2 q e2, ga_ov_out e2]
def Blk (h : ga_H) (Z : Nat → Nat) (c : Nat → va_E) (n : Nat) (H : ga_H) : Prop := ga_inj Z n ∧ (∀ k, k < n → h (Z k) = none) ∧ H = ga_ov h Z c n
def cat {α : Type} (n : Nat) (f g : Nat → α) : Nat → α := fun k => if k < n then f k else g (k - n)
theorem cat_lt {α : Type} {n k : Nat} {f g : Nat → α} (h : k < n) : cat n f g k = f k := if_pos h
theorem cat_ge {α : Type} {n k : Nat} {f g : Nat → α} (h : n ≤ k) : cat n f g k = g (k - n) := if_neg (by omega)
theorem Blk.at {h H : ga_H} {Z : Nat → Nat} {c : Nat → va_E} {n k : Nat} (hB : Blk h Z c n H) (hk : k < n) : H (Z k) = some (c k) := by
  rw [hB.2.2]; exact ga_ov_at hB.1 hk
theorem Blk.out {h H : ga_H} {Z : Nat → Nat} {c : Nat → va_E} {n q : Nat} (hB : Blk h Z c n H) (hq : ∀ k, k < n → q ≠ Z k) : H q = h q := by
  rw [hB.2.2]; exact ga_ov_out hq
theorem Blk.new {h H : ga_H} {Z : Nat → Nat} {c : Nat → va_E} {n q : Nat} (hB : Blk h Z c n H) (hq : H q = none) : h q = none ∧ ∀ k, k < n → q ≠ Z k := by
  have e : ∀ k, k < n → q ≠ Z k := fun k hk z => by
    rw [z, hB.at hk] at hq; cases hq
  exact ⟨(hB.out e).symm.trans hq, e⟩
theorem Blk.mk {h H : ga_H} {Z : Nat → Nat} {c : Nat → va_E} {n : Nat} (h1 : ga_inj Z n) (h2 : ∀ k, k < n → h (Z k) = none) (h3 : ∀ k, k < n → H (Z k) = some (c k)) (h4 : ∀ q, (∀ k, k < n → q ≠ Z k) → H q = h q) : Blk h Z c n H := ⟨h1, h2, ga_ov_ext h1 h3 h4⟩
theorem Blk_1 {h : ga_H} {q : Nat} (hq : h q = none) (x : va_E) : Blk h (fun _ => q) (fun _ => x) 1 (ga_up h q x) := ⟨fun i j hi hj _ => by omega, fun _ _ => hq, rfl⟩
theorem Blk.push {h H : ga_H} {Z : Nat → Nat} {c : Nat → va_E} {n q : Nat} (hB : Blk h Z c n H) (hq : H q = none) (x : va_E) : Blk h (va_up Z n q) (va_up c n x) (n + 1) (ga_up H q x) := by
  obtain ⟨n1, n2⟩ := hB.new hq
  refine Blk.mk (fun i j hi hj e => ?_) (fun k hk => ?_) (fun k hk => ?_) (fun a ha => ?_)
  · by_cases h1 : i = n <;> by_cases h2 : j = n
    · omega
    · rw [h1, va_us, va_un h2] at e; exact absurd e (n2 j (by omega))
    · rw [h2, va_us, va_un h1] at e; exact absurd e.symm (n2 i (by omega))
    · rw [va_un h1, va_un h2] at e; exact hB.1 i j (by omega) (by omega) e
  · by_cases h1 : k = n
    · rw [h1, va_us]; exact n1
    · rw [va_un h1]; exact hB.2.1 k (by omega)
  · by_cases h1 : k = n
    · rw [h1, va_us, va_us, ga_up_eq]
    · rw [va_un h1, va_un h1, ga_up_ne (fun z => n2 k (by omega) z.symm)]; exact hB.at (by omega)
  · have e1 : a ≠ q := by have := ha n (by omega); rwa [va_us] at this
    rw [ga_up_ne e1]
    exact hB.out (fun k hk => by have := ha k (by omega); rwa [va_un (by omega)] at this)
theorem Blk.put {h H : ga_H} {Z : Nat → Nat} {c : Nat → va_E} {n k : Nat} (hB : Blk h Z c n H) (hk : k < n) (x : va_E) : Blk h Z (va_up c k x) n (ga_up H (Z k) x) := ⟨hB.1, hB.2.1, by rw [hB.2.2]; exact ga_ov_up hB.1 hk⟩
theorem Blk.app {h H H' : ga_H} {Z A : Nat → Nat} {c d : Nat → va_E} {n m : Nat} (hB : Blk h Z c n H) (hA : Blk H A d m H') : Blk h (cat n Z A) (cat n c d) (n + m) H' := by
  have hn : ∀ k, k < m → h (A k) = none ∧ ∀ j, j < n → A k ≠ Z j := fun k hk => hB.new (hA.2.1 k hk)
  refine Blk.mk (fun i j hi hj e => ?_) (fun k hk => ?_) (fun k hk => ?_) (fun a ha => ?_)
  · by_cases h1 : i < n <;> by_cases h2 : j < n
    · rw [cat_lt h1, cat_lt h2] at e; exact hB.1 i j h1 h2 e
    · rw [cat_lt h1, cat_ge (by omega)] at e; exact absurd e.symm ((hn (j - n) (by omega)).2 i h1)
    · rw [cat_ge (by omega), cat_lt h2] at e; exact absurd e ((hn (i - n) (by omega)).2 j h2)
    · rw [cat_ge (by omega), cat_ge (by omega)] at e
      have := hA.1 (i - n) (j - n) (by omega) (by omega) e
      omega
  · by_cases h1 : k < n
    · rw [cat_lt h1]; exact hB.2.1 k h1
    · rw [cat_ge (by omega)]; exact (hn (k - n) (by omega)).1
  · by_cases h1 : k < n
    · rw [cat_lt h1, cat_lt h1, hA.out (fun j hj z => (hn j hj).2 k h1 z.symm)]; exact hB.at h1
    · rw [cat_ge (by omega), cat_ge (by omega)]; exact hA.at (by omega)
  · rw [hA.out (fun k hk => by have := ha (n + k) (by omega); rwa [cat_ge (by omega), show n + k - n = k by omega] at this)]
    exact hB.out (fun k hk => by have := ha k (by omega); rwa [cat_lt hk] at this)
theorem Blk.congr {h H : ga_H} {Z Z' : Nat → Nat} {c c' : Nat → va_E} {n : Nat} (hB : Blk h Z c n H) (h1 : ∀ k, k < n → Z' k = Z k) (h2 : ∀ k, k < n → c' k = c k) : Blk h Z' c' n H :=
  Blk.mk (fun i j hi hj e => hB.1 i j hi hj (by rw [← h1 i hi, ← h1 j hj]; exact e)) (fun k hk => by rw [h1 k hk]; exact hB.2.1 k hk) (fun k hk => by rw [h1 k hk, h2 k hk]; exact hB.at hk) (fun q hq => hB.out (fun k hk => by rw [← h1 k hk]; exact hq k hk))
theorem Blk.perm {h H : ga_H} {Z : Nat → Nat} {c : Nat → va_E} {n : Nat} (hB : Blk h Z c n H) (p r : Nat → Nat) (h1 : ∀ k, k < n → p k < n ∧ r (p k) = k) (h2 : ∀ k, k < n → r k < n ∧ p (r k) = k) : Blk h (fun k => Z (p k)) (fun k => c (p k)) n H :=
  Blk.mk (fun i j hi hj e => by
    have := hB.1 (p i) (p j) (h1 i hi).1 (h1 j hj).1 e
    rw [← (h1 i hi).2, ← (h1 j hj).2, this]) (fun k hk => hB.2.1 (p k) (h1 k hk).1) (fun k hk => hB.at (h1 k hk).1) (fun q hq => hB.out (fun k hk => by have := hq (r k) (h2 k hk).1; rwa [(h2 k hk).2] at this))
theorem Blk.other {h H : ga_H} {Z : Nat → Nat} {c : Nat → va_E} {n q : Nat} {x : va_E} (hB : Blk h Z c n H) (hq : h q = some x) : H q = some x ∧ ∀ k, k < n → q ≠ Z k := by
  have e : ∀ k, k < n → q ≠ Z k := fun k hk z => by
    have := hB.2.1 k hk
    rw [← z, hq] at this; cases this
  exact ⟨(hB.out e).trans hq, e⟩
