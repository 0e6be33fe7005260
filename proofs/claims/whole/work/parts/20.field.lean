/-! The field: Fermat by the kernel, inverses, sums -/
/-- x to the power whose binary digits are bs, modulo 32003, onto r -/
def pwb (x : Nat) : List Bool → Nat → Nat
  | [], r => r
  | b :: bs, r => pwb x bs (if b then r * r % 32003 * x % 32003 else r * r % 32003)
def pwe : List Bool → Nat → Nat
  | [], e => e
  | b :: bs, e => pwe bs (if b then 2 * e + 1 else 2 * e)
theorem pwb_eq (x : zp) : ∀ (bs : List Bool) (r e : Nat), zo r = zpow x e → zo (pwb x.val bs r) = zpow x (pwe bs e)
  | [], _, _, h => h
  | b :: bs, r, e, h => by
    have h2 : zo (r * r % 32003) = zpow x (2 * e) := by
      have : zo (r * r % 32003) = zo (r * r) := Fin.ext (by rw [zo_val, zo_val, Nat.mod_mod])
      rw [this, zo_mul, h, Nat.two_mul, zpow_add]
    unfold pwb pwe
    cases b with
    | false => exact pwb_eq x bs _ _ h2
    | true =>
      refine pwb_eq x bs _ _ ?_
      have : zo (r * r % 32003 * x.val % 32003) = zo (r * r % 32003 * x.val) := Fin.ext (by rw [zo_val, zo_val, Nat.mod_mod])
      show zo (r * r % 32003 * x.val % 32003) = zpow x (2 * e + 1)
      rw [this, zo_mul, h2, zo_self]
      rfl
def pw_bits : List Bool := [true, true, true, true, true, false, true, false, false, false, false, false, false, true, false]
theorem pw_bits_eq : pwe pw_bits 0 = 32002 := by decide
def pw_ok (x : Nat) : Bool := Nat.beq x 0 || (Nat.ble 32003 x || Nat.beq (pwb x pw_bits 1) 1)
def pw_rng (lo : Nat) : Nat → Bool
  | 0 => pw_ok lo
  | k + 1 => pw_rng lo k && pw_rng (lo + 2 ^ k) k
theorem pw_rng_all : ∀ (k lo : Nat), pw_rng lo k = true → ∀ i, i < 2 ^ k → pw_ok (lo + i) = true
  | 0, lo, h, i, hi => by
    have : i = 0 := by simpa using hi
    subst this
    exact h
  | k + 1, lo, h, i, hi => by
    simp only [pw_rng, Bool.and_eq_true] at h
    rw [Nat.pow_succ] at hi
    by_cases c : i < 2 ^ k
    · exact pw_rng_all k lo h.1 i c
    · have := pw_rng_all k (lo + 2 ^ k) h.2 (i - 2 ^ k) (by omega)
      rwa [show lo + 2 ^ k + (i - 2 ^ k) = lo + i by omega] at this
set_option maxRecDepth 100000 in
theorem pw_all : pw_rng 0 15 = true := by decide +kernel
theorem fermat {x : zp} (h : x ≠ 0) : zpow x 32002 = 1 := by
  have h1 := pw_rng_all 15 0 pw_all x.val (Nat.lt_of_lt_of_le x.isLt (by decide))
  rw [Nat.zero_add] at h1
  have h2 := pwb_eq x pw_bits 1 0 rfl
  rw [pw_bits_eq] at h2
  rw [← h2]
  unfold pw_ok at h1
  simp only [Bool.or_eq_true, Nat.beq_eq, Nat.ble_eq] at h1
  rcases h1 with h1 | h1 | h1
  · exact absurd (Fin.ext h1) h
  · exact absurd x.isLt (by omega)
  · rw [h1]; rfl
theorem zinv_mul {x : zp} (h : x ≠ 0) : x * zinv x = 1 := by
  have e : zpow x 32002 = zpow x 32001 * x := rfl
  rw [fermat h] at e
  rw [Fin.mul_comm]
  exact e.symm
theorem zno {x y : zp} (h : x * y = 0) : x = 0 ∨ y = 0 := by
  by_cases hx : x = 0
  · exact Or.inl hx
  · refine Or.inr ?_
    have h1 := zinv_mul hx
    have : y = (x * zinv x) * y := by rw [h1]; grind
    rw [this]
    have : x * zinv x * y = zinv x * (x * y) := by grind
    rw [this, h]
    grind
theorem zinv_ne {x : zp} (h : x ≠ 0) : zinv x ≠ 0 := fun e => by
  have := zinv_mul h
  rw [e] at this
  exact absurd this (by decide)
/-- a finite sum -/
def zs : Nat → (Nat → zp) → zp
  | 0, _ => 0
  | n + 1, f => zs n f + f n
theorem zs_congr {f g : Nat → zp} : ∀ {n : Nat}, (∀ i, i < n → f i = g i) → zs n f = zs n g
  | 0, _ => rfl
  | n + 1, h => by
    show zs n f + f n = zs n g + g n
    rw [zs_congr (fun i hi => h i (Nat.lt_succ_of_lt hi)), h n (Nat.lt_succ_self n)]
theorem zs_zero {f : Nat → zp} : ∀ {n : Nat}, (∀ i, i < n → f i = 0) → zs n f = 0
  | 0, _ => rfl
  | n + 1, h => by
    show zs n f + f n = 0
    rw [zs_zero (fun i hi => h i (Nat.lt_succ_of_lt hi)), h n (Nat.lt_succ_self n)]
    rfl
theorem zs_add (f g : Nat → zp) : ∀ n : Nat, zs n (fun i => f i + g i) = zs n f + zs n g
  | 0 => rfl
  | n + 1 => by
    show zs n _ + (f n + g n) = (zs n f + f n) + (zs n g + g n)
    rw [zs_add f g n]
    grind
theorem zs_mul (c : zp) (f : Nat → zp) : ∀ n : Nat, zs n (fun i => c * f i) = c * zs n f
  | 0 => by show (0 : zp) = c * 0; grind
  | n + 1 => by
    show zs n _ + c * f n = c * (zs n f + f n)
    rw [zs_mul c f n]
    grind
theorem zs_sub (f g : Nat → zp) (n : Nat) : zs n (fun i => f i - g i) = zs n f - zs n g := by
  have h := zs_add f (fun i => (-1 : zp) * g i) n
  rw [zs_mul] at h
  have : zs n (fun i => f i - g i) = zs n (fun i => f i + (-1 : zp) * g i) := zs_congr (fun i _ => by grind)
  rw [this, h]
  grind
theorem zs_one {f : Nat → zp} {k : Nat} : ∀ {n : Nat}, k < n → (∀ i, i < n → i ≠ k → f i = 0) → zs n f = f k
  | 0, h, _ => absurd h (by omega)
  | n + 1, h, hz => by
    show zs n f + f n = f k
    by_cases e : k = n
    · subst e
      rw [zs_zero (fun i hi => hz i (by omega) (by omega))]
      grind
    · rw [zs_one (by omega) (fun i hi hn => hz i (by omega) hn), hz n (by omega) (by omega)]
      grind
/-- all but one place -/
theorem zs_out (f : Nat → zp) {k n : Nat} (h : k < n) : zs n f = f k + zs n (fun i => if i = k then 0 else f i) := by
  have e : zs n f = zs n (fun i => (if i = k then f k else 0) + (if i = k then 0 else f i)) := zs_congr (fun i _ => by
    by_cases c : i = k
    · subst c; simp
    · simp [c])
  rw [e, zs_add, zs_one h (fun i _ hn => if_neg hn)]
  simp
