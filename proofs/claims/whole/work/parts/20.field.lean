/-! The field: Fermat by the kernel, inverses, sums -/
/-- x to the power whose binary digits are bs, modulo 32003, onto r -/
def pwb (x : Nat) : List Bool → Nat → Nat
  | [], r => r
  | b :: bs, r => pwb x bs (if b then r * r % 32003 * x % 32003 else r * r % 32003)
def pwe : List Bool → Nat → Nat
  | [], e => e
  | b :: bs, e => pwe bs (if b then 2 * e + 1 else 2 * e)
theorem pwb_eq (x : zp) : ∀ (bs : List Bool) (r e : Nat), zo r = zpow x e → zo (pwb x.val bs r) = zpow x (pwe bs e)
  | [], _, _, h => h
  | b :: bs, r, e, h => by
    have h2 : zo (r * r % 32003) = zpow x (2 * e) := by
      have : zo (r * r % 32003) = zo (r * r) := Fin.ext (by rw [zo_val, zo_val, Nat.mod_mod])
      rw [this, zo_mul, h, Nat.two_mul, zpow_add]
    unfold pwb pwe
    cases b with
    | false => exact pwb_eq x bs _ _ h2
    | true =>
      refine pwb_eq x bs _ _ ?_
      have : zo (r * r % 32003 * x.val % 32003) = zo (r * r % 32003 * x.val) := Fin.ext (by rw [zo_val, zo_val, Nat.mod_mod])
      show zo (r * r % 32003 * x.val % 32003) = zpow x (2 * e + 1)
      rw [this, zo_mul, h2, zo_self]
      rfl
def pw_bits : List Bool := [true, true, true, true, true, false, true, false, false, false, false, false, false, true, false]
theorem pw_bits_eq : pwe pw_bits 0 = 32002 := by decide
def pw_ok (x : Nat) : Bool := Nat.ble 16002 x || (Nat.beq (x % 2) 0 || (Nat.beq (x % 3) 0 || (Nat.beq (x % 5) 0 || (Nat.beq (x % 7) 0 || Nat.beq (pwb x pw_bits 1) 1))))
def pw_rng (lo : Nat) : Nat → Bool
  | 0 => pw_ok lo
  | k + 1 => pw_rng lo k && pw_rng (lo + 2 ^ k) k
theorem pw_rng_all : ∀ (k lo : Nat), pw_rng lo k = true → ∀ i, i < 2 ^ k → pw_ok (lo + i) = true
  | 0, lo, h, i, hi => by
    have : i = 0 := by simpa using hi
    subst this
    exact h
  | k + 1, lo, h, i, hi => by
    simp only [pw_rng, Bool.and_eq_true] at h
    rw [Nat.pow_succ] at hi
    by_cases c : i < 2 ^ k
    · exact pw_rng_all k lo h.1 i c
    · have := pw_rng_all k (lo + 2 ^ k) h.2 (i - 2 ^ k) (by omega)
      rwa [show lo + 2 ^ k + (i - 2 ^ k) = lo + i by omega] at this
set_option maxRecDepth 100000 in
theorem pw_all0 : pw_rng 0 11 = true := by decide +kernel
set_option maxRecDepth 100000 in
theorem pw_all1 : pw_rng 2048 11 = true := by decide +kernel
set_option maxRecDepth 100000 in
theorem pw_all2 : pw_rng 4096 11 = true := by decide +kernel
set_option maxRecDepth 100000 in
theorem pw_all3 : pw_rng 6144 11 = true := by decide +kernel
set_option maxRecDepth 100000 in
theorem pw_all4 : pw_rng 8192 11 = true := by decide +kernel
set_option maxRecDepth 100000 in
theorem pw_all5 : pw_rng 10240 11 = true := by decide +kernel
set_option maxRecDepth 100000 in
theorem pw_all6 : pw_rng 12288 11 = true := by decide +kernel
set_option maxRecDepth 100000 in
theorem pw_all7 : pw_rng 14336 11 = true := by decide +kernel
theorem pw_each {x : Nat} (h : x < 16002) : pw_ok x = true := by
  have key : ∀ t, t < 8 → pw_rng (2048 * t) 11 = true := fun t ht => by
    match t, ht with
    | 0, _ => exact pw_all0
    | 1, _ => exact pw_all1
    | 2, _ => exact pw_all2
    | 3, _ => exact pw_all3
    | 4, _ => exact pw_all4
    | 5, _ => exact pw_all5
    | 6, _ => exact pw_all6
    | 7, _ => exact pw_all7
    | t + 8, ht => omega
  have := pw_rng_all 11 (2048 * (x / 2048)) (key (x / 2048) (by omega)) (x % 2048) (by omega)
  rwa [show 2048 * (x / 2048) + x % 2048 = x by omega] at this
theorem pw_chain {x : Nat} (hx : x < 32003) (h : pwb x pw_bits 1 = 1) : zpow (zo x) 32002 = 1 := by
  have h2 := pwb_eq (zo x) pw_bits 1 0 rfl
  rw [pw_bits_eq, show (zo x).val = x from Nat.mod_eq_of_lt hx, h] at h2
  rw [← h2]; rfl
theorem pw_prod {a b : Nat} (ha : zpow (zo a) 32002 = 1) (hb : zpow (zo b) 32002 = 1) : zpow (zo (a * b)) 32002 = 1 := by
  rw [zo_mul, zpow_mul, ha, hb]; rfl
theorem pw_small : ∀ x : Nat, 0 < x → x < 16002 → zpow (zo x) 32002 = 1 := by
  intro x
  induction x using Nat.strongRecOn with
  | _ x ih =>
    intro h0 h1
    have hd : ∀ q : Nat, 1 < q → pwb q pw_bits 1 = 1 → q < 32003 → x % q = 0 → zpow (zo x) 32002 = 1 := fun q hq hc hq2 he => by
      have e : x = q * (x / q) := by have := Nat.div_add_mod x q; omega
      have hlt : x / q < x := Nat.div_lt_self h0 hq
      have hpos : 0 < x / q := by
        rcases Nat.eq_zero_or_pos (x / q) with z | z
        · rw [z] at e; omega
        · exact z
      rw [e]
      exact pw_prod (pw_chain hq2 hc) (ih (x / q) hlt hpos (by omega))
    have h := pw_each h1
    unfold pw_ok at h
    simp only [Bool.or_eq_true, Nat.beq_eq, Nat.ble_eq] at h
    rcases h with h | h | h | h | h | h
    · omega
    · exact hd 2 (by decide) (by decide) (by decide) h
    · exact hd 3 (by decide) (by decide) (by decide) h
    · exact hd 5 (by decide) (by decide) (by decide) h
    · exact hd 7 (by decide) (by decide) (by decide) h
    · exact pw_chain (by omega) h
theorem zpow_neg_even (x : zp) : ∀ n : Nat, zpow (-x) (2 * n) = zpow x (2 * n) := fun n => by
  rw [← zpow_sq, ← zpow_sq]
  congr 1
  grind
theorem fermat {x : zp} (h : x ≠ 0) : zpow x 32002 = 1 := by
  have h0 : x.val ≠ 0 := fun e => h (Fin.ext e)
  have hl := zl x
  by_cases c : x.val < 16002
  · have := pw_small x.val (by omega) c
    rwa [zo_self] at this
  · have e := zneg h0
    have := pw_small (-x).val (by omega) (by omega)
    rw [zo_self] at this
    exact (zpow_neg_even x 16001).symm.trans this
theorem zinv_mul {x : zp} (h : x ≠ 0) : x * zinv x = 1 := by
  have e : zpow x 32002 = zpow x 32001 * x := rfl
  rw [fermat h] at e
  rw [Fin.mul_comm]
  exact e.symm
theorem zno {x y : zp} (h : x * y = 0) : x = 0 ∨ y = 0 := by
  by_cases hx : x = 0
  · exact Or.inl hx
  · refine Or.inr ?_
    have h1 := zinv_mul hx
    have : y = (x * zinv x) * y := by rw [h1]; grind
    rw [this]
    have : x * zinv x * y = zinv x * (x * y) := by grind
    rw [this, h]
    grind
theorem zinv_ne {x : zp} (h : x ≠ 0) : zinv x ≠ 0 := fun e => by
  have := zinv_mul h
  rw [e, Fin.mul_zero] at this
  exact absurd this (by decide)
/-- a finite sum -/
def zs : Nat → (Nat → zp) → zp
  | 0, _ => 0
  | n + 1, f => zs n f + f n
theorem zs_congr {f g : Nat → zp} : ∀ {n : Nat}, (∀ i, i < n → f i = g i) → zs n f = zs n g
  | 0, _ => rfl
  | n + 1, h => by
    show zs n f + f n = zs n g + g n
    rw [zs_congr (fun i hi => h i (Nat.lt_succ_of_lt hi)), h n (Nat.lt_succ_self n)]
theorem zs_zero {f : Nat → zp} : ∀ {n : Nat}, (∀ i, i < n → f i = 0) → zs n f = 0
  | 0, _ => rfl
  | n + 1, h => by
    show zs n f + f n = 0
    rw [zs_zero (fun i hi => h i (Nat.lt_succ_of_lt hi)), h n (Nat.lt_succ_self n)]
    rfl
theorem zs_add (f g : Nat → zp) : ∀ n : Nat, zs n (fun i => f i + g i) = zs n f + zs n g
  | 0 => rfl
  | n + 1 => by
    show zs n _ + (f n + g n) = (zs n f + f n) + (zs n g + g n)
    rw [zs_add f g n]
    grind
theorem zs_mul (c : zp) (f : Nat → zp) : ∀ n : Nat, zs n (fun i => c * f i) = c * zs n f
  | 0 => by show (0 : zp) = c * 0; grind
  | n + 1 => by
    show zs n _ + c * f n = c * (zs n f + f n)
    rw [zs_mul c f n]
    grind
theorem zs_sub (f g : Nat → zp) (n : Nat) : zs n (fun i => f i - g i) = zs n f - zs n g := by
  have h := zs_add f (fun i => (-1 : zp) * g i) n
  rw [zs_mul] at h
  have : zs n (fun i => f i - g i) = zs n (fun i => f i + (-1 : zp) * g i) := zs_congr (fun i _ => by grind)
  rw [this, h]
  grind
theorem zs_one {f : Nat → zp} {k : Nat} : ∀ {n : Nat}, k < n → (∀ i, i < n → i ≠ k → f i = 0) → zs n f = f k
  | 0, h, _ => absurd h (by omega)
  | n + 1, h, hz => by
    show zs n f + f n = f k
    by_cases e : k = n
    · subst e
      rw [zs_zero (fun i hi => hz i (by omega) (by omega))]
      grind
    · rw [zs_one (by omega) (fun i hi hn => hz i (by omega) hn), hz n (by omega) (by omega)]
      grind
/-- all but one place -/
theorem zs_out (f : Nat → zp) {k n : Nat} (h : k < n) : zs n f = f k + zs n (fun i => if i = k then 0 else f i) := by
  have e : zs n f = zs n (fun i => (if i = k then f k else 0) + (if i = k then 0 else f i)) := zs_congr (fun i _ => by
    by_cases c : i = k
    · subst c; simp
    · simp [c])
  rw [e, zs_add, zs_one h (fun i _ hn => if_neg hn)]
  simp
